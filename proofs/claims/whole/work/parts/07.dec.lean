theorem dd_D_init_0 : decode bb_D_init 0 = .ok (.aload_n 0, 1) := by decide +kernel
theorem dd_D_init_1 : decode bb_D_init 1 = .ok (.invokespecial 3, 3) := by decide +kernel
theorem dd_D_init_4 : decode bb_D_init 4 = .ok (.aload_n 0, 1) := by decide +kernel
theorem dd_D_init_5 : decode bb_D_init 5 = .ok (.bipush 8, 2) := by decide +kernel
theorem dd_D_init_7 : decode bb_D_init 7 = .ok (.newarray .long, 2) := by decide +kernel
theorem dd_D_init_9 : decode bb_D_init 9 = .ok (.putfield 9, 3) := by decide +kernel
theorem dd_D_init_12 : decode bb_D_init 12 = .ok (.aload_n 0, 1) := by decide +kernel
theorem dd_D_init_13 : decode bb_D_init 13 = .ok (.bipush 8, 2) := by decide +kernel
theorem dd_D_init_15 : decode bb_D_init 15 = .ok (.newarray .int, 2) := by decide +kernel
theorem dd_D_init_17 : decode bb_D_init 17 = .ok (.putfield 15, 3) := by decide +kernel
theorem dd_D_init_20 : decode bb_D_init 20 = .ok (.aload_n 0, 1) := by decide +kernel
theorem dd_D_init_21 : decode bb_D_init 21 = .ok (.iconst 0, 1) := by decide +kernel
theorem dd_D_init_22 : decode bb_D_init 22 = .ok (.putfield 19, 3) := by decide +kernel
theorem dd_D_init_25 : decode bb_D_init 25 = .ok (.aload_n 0, 1) := by decide +kernel
theorem dd_D_init_26 : decode bb_D_init 26 = .ok (.iconst 0, 1) := by decide +kernel
theorem dd_D_init_27 : decode bb_D_init 27 = .ok (.putfield 23, 3) := by decide +kernel
theorem dd_D_init_30 : decode bb_D_init 30 = .ok (.aload_n 0, 1) := by decide +kernel
theorem dd_D_init_31 : decode bb_D_init 31 = .ok (.aconst_null, 1) := by decide +kernel
theorem dd_D_init_32 : decode bb_D_init 32 = .ok (.putfield 27, 3) := by decide +kernel
theorem dd_D_init_35 : decode bb_D_init 35 = .ok (.aload_n 0, 1) := by decide +kernel
theorem dd_D_init_36 : decode bb_D_init 36 = .ok (.iload_n 1, 1) := by decide +kernel
theorem dd_D_init_37 : decode bb_D_init 37 = .ok (.putfield 31, 3) := by decide +kernel
theorem dd_D_init_40 : decode bb_D_init 40 = .ok (.aload_n 0, 1) := by decide +kernel
theorem dd_D_init_41 : decode bb_D_init 41 = .ok (.iload_n 2, 1) := by decide +kernel
theorem dd_D_init_42 : decode bb_D_init 42 = .ok (.putfield 34, 3) := by decide +kernel
theorem dd_D_init_45 : decode bb_D_init 45 = .ok (.aload_n 0, 1) := by decide +kernel
theorem dd_D_init_46 : decode bb_D_init 46 = .ok (.lload_n 3, 1) := by decide +kernel
theorem dd_D_init_47 : decode bb_D_init 47 = .ok (.putfield 37, 3) := by decide +kernel
theorem dd_D_init_50 : decode bb_D_init 50 = .ok (.aload_n 0, 1) := by decide +kernel
theorem dd_D_init_51 : decode bb_D_init 51 = .ok (.iload 5, 2) := by decide +kernel
theorem dd_D_init_53 : decode bb_D_init 53 = .ok (.putfield 41, 3) := by decide +kernel
theorem dd_D_init_56 : decode bb_D_init 56 = .ok (.return_, 1) := by decide +kernel
theorem dd_D_isWhole_0 : decode bb_D_isWhole 0 = .ok (.aload_n 0, 1) := by decide +kernel
theorem dd_D_isWhole_1 : decode bb_D_isWhole 1 = .ok (.getfield 23, 3) := by decide +kernel
theorem dd_D_isWhole_4 : decode bb_D_isWhole 4 = .ok (.ifCond .eq 14, 3) := by decide +kernel
theorem dd_D_isWhole_7 : decode bb_D_isWhole 7 = .ok (.aload_n 0, 1) := by decide +kernel
theorem dd_D_isWhole_8 : decode bb_D_isWhole 8 = .ok (.getfield 27, 3) := by decide +kernel
theorem dd_D_isWhole_11 : decode bb_D_isWhole 11 = .ok (.ifnonnull 7, 3) := by decide +kernel
theorem dd_D_isWhole_14 : decode bb_D_isWhole 14 = .ok (.iconst 1, 1) := by decide +kernel
theorem dd_D_isWhole_15 : decode bb_D_isWhole 15 = .ok (.goto 4, 3) := by decide +kernel
theorem dd_D_isWhole_18 : decode bb_D_isWhole 18 = .ok (.iconst 0, 1) := by decide +kernel
theorem dd_D_isWhole_19 : decode bb_D_isWhole 19 = .ok (.ireturn, 1) := by decide +kernel
theorem dd_D_wantsChange_0 : decode bb_D_wantsChange 0 = .ok (.aload_n 0, 1) := by decide +kernel
theorem dd_D_wantsChange_1 : decode bb_D_wantsChange 1 = .ok (.getfield 27, 3) := by decide +kernel
theorem dd_D_wantsChange_4 : decode bb_D_wantsChange 4 = .ok (.ifnonnull 10, 3) := by decide +kernel
theorem dd_D_wantsChange_7 : decode bb_D_wantsChange 7 = .ok (.aload_n 0, 1) := by decide +kernel
theorem dd_D_wantsChange_8 : decode bb_D_wantsChange 8 = .ok (.getfield 34, 3) := by decide +kernel
theorem dd_D_wantsChange_11 : decode bb_D_wantsChange 11 = .ok (.goto 20, 3) := by decide +kernel
theorem dd_D_wantsChange_14 : decode bb_D_wantsChange 14 = .ok (.aload_n 0, 1) := by decide +kernel
theorem dd_D_wantsChange_15 : decode bb_D_wantsChange 15 = .ok (.getfield 27, 3) := by decide +kernel
theorem dd_D_wantsChange_18 : decode bb_D_wantsChange 18 = .ok (.getfield 44, 3) := by decide +kernel
theorem dd_D_wantsChange_21 : decode bb_D_wantsChange 21 = .ok (.aload_n 0, 1) := by decide +kernel
theorem dd_D_wantsChange_22 : decode bb_D_wantsChange 22 = .ok (.getfield 27, 3) := by decide +kernel
theorem dd_D_wantsChange_25 : decode bb_D_wantsChange 25 = .ok (.getfield 49, 3) := by decide +kernel
theorem dd_D_wantsChange_28 : decode bb_D_wantsChange 28 = .ok (.invokestatic 52, 3) := by decide +kernel
theorem dd_D_wantsChange_31 : decode bb_D_wantsChange 31 = .ok (.ireturn, 1) := by decide +kernel
theorem dd_D_addParameter_0 : decode bb_D_addParameter 0 = .ok (.aload_n 0, 1) := by decide +kernel
theorem dd_D_addParameter_1 : decode bb_D_addParameter 1 = .ok (.getfield 19, 3) := by decide +kernel
theorem dd_D_addParameter_4 : decode bb_D_addParameter 4 = .ok (.bipush 8, 2) := by decide +kernel
theorem dd_D_addParameter_6 : decode bb_D_addParameter 6 = .ok (.if_icmp .ge 33, 3) := by decide +kernel
theorem dd_D_addParameter_9 : decode bb_D_addParameter 9 = .ok (.aload_n 0, 1) := by decide +kernel
theorem dd_D_addParameter_10 : decode bb_D_addParameter 10 = .ok (.getfield 9, 3) := by decide +kernel
theorem dd_D_addParameter_13 : decode bb_D_addParameter 13 = .ok (.aload_n 0, 1) := by decide +kernel
theorem dd_D_addParameter_14 : decode bb_D_addParameter 14 = .ok (.getfield 19, 3) := by decide +kernel
theorem dd_D_addParameter_17 : decode bb_D_addParameter 17 = .ok (.lload_n 1, 1) := by decide +kernel
theorem dd_D_addParameter_18 : decode bb_D_addParameter 18 = .ok (.lastore, 1) := by decide +kernel
theorem dd_D_addParameter_19 : decode bb_D_addParameter 19 = .ok (.aload_n 0, 1) := by decide +kernel
theorem dd_D_addParameter_20 : decode bb_D_addParameter 20 = .ok (.getfield 15, 3) := by decide +kernel
theorem dd_D_addParameter_23 : decode bb_D_addParameter 23 = .ok (.aload_n 0, 1) := by decide +kernel
theorem dd_D_addParameter_24 : decode bb_D_addParameter 24 = .ok (.getfield 19, 3) := by decide +kernel
theorem dd_D_addParameter_27 : decode bb_D_addParameter 27 = .ok (.iload_n 3, 1) := by decide +kernel
theorem dd_D_addParameter_28 : decode bb_D_addParameter 28 = .ok (.iastore, 1) := by decide +kernel
theorem dd_D_addParameter_29 : decode bb_D_addParameter 29 = .ok (.aload_n 0, 1) := by decide +kernel
theorem dd_D_addParameter_30 : decode bb_D_addParameter 30 = .ok (.dup, 1) := by decide +kernel
theorem dd_D_addParameter_31 : decode bb_D_addParameter 31 = .ok (.getfield 19, 3) := by decide +kernel
theorem dd_D_addParameter_34 : decode bb_D_addParameter 34 = .ok (.iconst 1, 1) := by decide +kernel
theorem dd_D_addParameter_35 : decode bb_D_addParameter 35 = .ok (.iadd, 1) := by decide +kernel
theorem dd_D_addParameter_36 : decode bb_D_addParameter 36 = .ok (.putfield 19, 3) := by decide +kernel
theorem dd_D_addParameter_39 : decode bb_D_addParameter 39 = .ok (.return_, 1) := by decide +kernel
theorem dd_D_indexOfParameter_0 : decode bb_D_indexOfParameter 0 = .ok (.iconst 0, 1) := by decide +kernel
theorem dd_D_indexOfParameter_1 : decode bb_D_indexOfParameter 1 = .ok (.istore_n 3, 1) := by decide +kernel
theorem dd_D_indexOfParameter_2 : decode bb_D_indexOfParameter 2 = .ok (.iload_n 3, 1) := by decide +kernel
theorem dd_D_indexOfParameter_3 : decode bb_D_indexOfParameter 3 = .ok (.aload_n 0, 1) := by decide +kernel
theorem dd_D_indexOfParameter_4 : decode bb_D_indexOfParameter 4 = .ok (.getfield 19, 3) := by decide +kernel
theorem dd_D_indexOfParameter_7 : decode bb_D_indexOfParameter 7 = .ok (.if_icmp .ge 28, 3) := by decide +kernel
theorem dd_D_indexOfParameter_10 : decode bb_D_indexOfParameter 10 = .ok (.iload_n 3, 1) := by decide +kernel
theorem dd_D_indexOfParameter_11 : decode bb_D_indexOfParameter 11 = .ok (.bipush 8, 2) := by decide +kernel
theorem dd_D_indexOfParameter_13 : decode bb_D_indexOfParameter 13 = .ok (.if_icmp .ge 22, 3) := by decide +kernel
theorem dd_D_indexOfParameter_16 : decode bb_D_indexOfParameter 16 = .ok (.aload_n 0, 1) := by decide +kernel
theorem dd_D_indexOfParameter_17 : decode bb_D_indexOfParameter 17 = .ok (.getfield 9, 3) := by decide +kernel
theorem dd_D_indexOfParameter_20 : decode bb_D_indexOfParameter 20 = .ok (.iload_n 3, 1) := by decide +kernel
theorem dd_D_indexOfParameter_21 : decode bb_D_indexOfParameter 21 = .ok (.laload, 1) := by decide +kernel
theorem dd_D_indexOfParameter_22 : decode bb_D_indexOfParameter 22 = .ok (.lload_n 1, 1) := by decide +kernel
theorem dd_D_indexOfParameter_23 : decode bb_D_indexOfParameter 23 = .ok (.lcmp, 1) := by decide +kernel
theorem dd_D_indexOfParameter_24 : decode bb_D_indexOfParameter 24 = .ok (.ifCond .ne 5, 3) := by decide +kernel
theorem dd_D_indexOfParameter_27 : decode bb_D_indexOfParameter 27 = .ok (.iload_n 3, 1) := by decide +kernel
theorem dd_D_indexOfParameter_28 : decode bb_D_indexOfParameter 28 = .ok (.ireturn, 1) := by decide +kernel
theorem dd_D_indexOfParameter_29 : decode bb_D_indexOfParameter 29 = .ok (.iinc 3 1, 3) := by decide +kernel
theorem dd_D_indexOfParameter_32 : decode bb_D_indexOfParameter 32 = .ok (.goto (-30), 3) := by decide +kernel
theorem dd_D_indexOfParameter_35 : decode bb_D_indexOfParameter 35 = .ok (.iconst (-1), 1) := by decide +kernel
theorem dd_D_indexOfParameter_36 : decode bb_D_indexOfParameter 36 = .ok (.ireturn, 1) := by decide +kernel
theorem dd_D_parameterType_0 : decode bb_D_parameterType 0 = .ok (.iload_n 1, 1) := by decide +kernel
theorem dd_D_parameterType_1 : decode bb_D_parameterType 1 = .ok (.ifCond .lt 17, 3) := by decide +kernel
theorem dd_D_parameterType_4 : decode bb_D_parameterType 4 = .ok (.iload_n 1, 1) := by decide +kernel
theorem dd_D_parameterType_5 : decode bb_D_parameterType 5 = .ok (.aload_n 0, 1) := by decide +kernel
theorem dd_D_parameterType_6 : decode bb_D_parameterType 6 = .ok (.getfield 19, 3) := by decide +kernel
theorem dd_D_parameterType_9 : decode bb_D_parameterType 9 = .ok (.if_icmp .ge 9, 3) := by decide +kernel
theorem dd_D_parameterType_12 : decode bb_D_parameterType 12 = .ok (.iload_n 1, 1) := by decide +kernel
theorem dd_D_parameterType_13 : decode bb_D_parameterType 13 = .ok (.bipush 8, 2) := by decide +kernel
theorem dd_D_parameterType_15 : decode bb_D_parameterType 15 = .ok (.if_icmp .lt 7, 3) := by decide +kernel
theorem dd_D_parameterType_18 : decode bb_D_parameterType 18 = .ok (.iconst (-1), 1) := by decide +kernel
theorem dd_D_parameterType_19 : decode bb_D_parameterType 19 = .ok (.goto 9, 3) := by decide +kernel
theorem dd_D_parameterType_22 : decode bb_D_parameterType 22 = .ok (.aload_n 0, 1) := by decide +kernel
theorem dd_D_parameterType_23 : decode bb_D_parameterType 23 = .ok (.getfield 15, 3) := by decide +kernel
theorem dd_D_parameterType_26 : decode bb_D_parameterType 26 = .ok (.iload_n 1, 1) := by decide +kernel
theorem dd_D_parameterType_27 : decode bb_D_parameterType 27 = .ok (.iaload, 1) := by decide +kernel
theorem dd_D_parameterType_28 : decode bb_D_parameterType 28 = .ok (.ireturn, 1) := by decide +kernel
theorem dd_D_take_0 : decode bb_D_take 0 = .ok (.aload_n 0, 1) := by decide +kernel
theorem dd_D_take_1 : decode bb_D_take 1 = .ok (.iconst 1, 1) := by decide +kernel
theorem dd_D_take_2 : decode bb_D_take 2 = .ok (.putfield 23, 3) := by decide +kernel
theorem dd_D_take_5 : decode bb_D_take 5 = .ok (.aload_n 0, 1) := by decide +kernel
theorem dd_D_take_6 : decode bb_D_take 6 = .ok (.getfield 27, 3) := by decide +kernel
theorem dd_D_take_9 : decode bb_D_take 9 = .ok (.ifnull 16, 3) := by decide +kernel
theorem dd_D_take_12 : decode bb_D_take 12 = .ok (.aload_n 0, 1) := by decide +kernel
theorem dd_D_take_13 : decode bb_D_take 13 = .ok (.getfield 27, 3) := by decide +kernel
theorem dd_D_take_16 : decode bb_D_take 16 = .ok (.dup, 1) := by decide +kernel
theorem dd_D_take_17 : decode bb_D_take 17 = .ok (.getfield 49, 3) := by decide +kernel
theorem dd_D_take_20 : decode bb_D_take 20 = .ok (.iconst 1, 1) := by decide +kernel
theorem dd_D_take_21 : decode bb_D_take 21 = .ok (.iadd, 1) := by decide +kernel
theorem dd_D_take_22 : decode bb_D_take 22 = .ok (.putfield 49, 3) := by decide +kernel
theorem dd_D_take_25 : decode bb_D_take 25 = .ok (.aload_n 0, 1) := by decide +kernel
theorem dd_D_take_26 : decode bb_D_take 26 = .ok (.aload_n 1, 1) := by decide +kernel
theorem dd_D_take_27 : decode bb_D_take 27 = .ok (.putfield 27, 3) := by decide +kernel
theorem dd_D_take_30 : decode bb_D_take 30 = .ok (.aload_n 0, 1) := by decide +kernel
theorem dd_D_take_31 : decode bb_D_take 31 = .ok (.getfield 27, 3) := by decide +kernel
theorem dd_D_take_34 : decode bb_D_take 34 = .ok (.ifnull 34, 3) := by decide +kernel
theorem dd_D_take_37 : decode bb_D_take 37 = .ok (.aload_n 0, 1) := by decide +kernel
theorem dd_D_take_38 : decode bb_D_take 38 = .ok (.getfield 27, 3) := by decide +kernel
theorem dd_D_take_41 : decode bb_D_take 41 = .ok (.getfield 49, 3) := by decide +kernel
theorem dd_D_take_44 : decode bb_D_take 44 = .ok (.aload_n 0, 1) := by decide +kernel
theorem dd_D_take_45 : decode bb_D_take 45 = .ok (.getfield 27, 3) := by decide +kernel
theorem dd_D_take_48 : decode bb_D_take 48 = .ok (.getfield 58, 3) := by decide +kernel
theorem dd_D_take_51 : decode bb_D_take 51 = .ok (.if_icmp .lt 17, 3) := by decide +kernel
theorem dd_D_take_54 : decode bb_D_take 54 = .ok (.aload_n 0, 1) := by decide +kernel
theorem dd_D_take_55 : decode bb_D_take 55 = .ok (.aload_n 0, 1) := by decide +kernel
theorem dd_D_take_56 : decode bb_D_take 56 = .ok (.getfield 27, 3) := by decide +kernel
theorem dd_D_take_59 : decode bb_D_take 59 = .ok (.getfield 61, 3) := by decide +kernel
theorem dd_D_take_62 : decode bb_D_take 62 = .ok (.putfield 27, 3) := by decide +kernel
theorem dd_D_take_65 : decode bb_D_take 65 = .ok (.goto (-35), 3) := by decide +kernel
theorem dd_D_take_68 : decode bb_D_take 68 = .ok (.return_, 1) := by decide +kernel
theorem dd_K_isKind_0 : decode bb_K_isKind 0 = .ok (.iload_n 0, 1) := by decide +kernel
theorem dd_K_isKind_1 : decode bb_K_isKind 1 = .ok (.ifCond .lt 13, 3) := by decide +kernel
theorem dd_K_isKind_4 : decode bb_K_isKind 4 = .ok (.iload_n 0, 1) := by decide +kernel
theorem dd_K_isKind_5 : decode bb_K_isKind 5 = .ok (.bipush 23, 2) := by decide +kernel
theorem dd_K_isKind_7 : decode bb_K_isKind 7 = .ok (.if_icmp .gt 7, 3) := by decide +kernel
theorem dd_K_isKind_10 : decode bb_K_isKind 10 = .ok (.iconst 1, 1) := by decide +kernel
theorem dd_K_isKind_11 : decode bb_K_isKind 11 = .ok (.goto 4, 3) := by decide +kernel
theorem dd_K_isKind_14 : decode bb_K_isKind 14 = .ok (.iconst 0, 1) := by decide +kernel
theorem dd_K_isKind_15 : decode bb_K_isKind 15 = .ok (.ireturn, 1) := by decide +kernel
theorem dd_K_isChange_0 : decode bb_K_isChange 0 = .ok (.iload_n 0, 1) := by decide +kernel
theorem dd_K_isChange_1 : decode bb_K_isChange 1 = .ok (.bipush 18, 2) := by decide +kernel
theorem dd_K_isChange_3 : decode bb_K_isChange 3 = .ok (.if_icmp .lt 7, 3) := by decide +kernel
theorem dd_K_isChange_6 : decode bb_K_isChange 6 = .ok (.iconst 1, 1) := by decide +kernel
theorem dd_K_isChange_7 : decode bb_K_isChange 7 = .ok (.goto 4, 3) := by decide +kernel
theorem dd_K_isChange_10 : decode bb_K_isChange 10 = .ok (.iconst 0, 1) := by decide +kernel
theorem dd_K_isChange_11 : decode bb_K_isChange 11 = .ok (.ireturn, 1) := by decide +kernel
theorem dd_K_isCall_0 : decode bb_K_isCall 0 = .ok (.iload_n 0, 1) := by decide +kernel
theorem dd_K_isCall_1 : decode bb_K_isCall 1 = .ok (.bipush 14, 2) := by decide +kernel
theorem dd_K_isCall_3 : decode bb_K_isCall 3 = .ok (.if_icmp .eq 15, 3) := by decide +kernel
theorem dd_K_isCall_6 : decode bb_K_isCall 6 = .ok (.iload_n 0, 1) := by decide +kernel
theorem dd_K_isCall_7 : decode bb_K_isCall 7 = .ok (.bipush 15, 2) := by decide +kernel
theorem dd_K_isCall_9 : decode bb_K_isCall 9 = .ok (.if_icmp .eq 9, 3) := by decide +kernel
theorem dd_K_isCall_12 : decode bb_K_isCall 12 = .ok (.iload_n 0, 1) := by decide +kernel
theorem dd_K_isCall_13 : decode bb_K_isCall 13 = .ok (.bipush 23, 2) := by decide +kernel
theorem dd_K_isCall_15 : decode bb_K_isCall 15 = .ok (.if_icmp .ne 7, 3) := by decide +kernel
theorem dd_K_isCall_18 : decode bb_K_isCall 18 = .ok (.iconst 1, 1) := by decide +kernel
theorem dd_K_isCall_19 : decode bb_K_isCall 19 = .ok (.goto 4, 3) := by decide +kernel
theorem dd_K_isCall_22 : decode bb_K_isCall 22 = .ok (.iconst 0, 1) := by decide +kernel
theorem dd_K_isCall_23 : decode bb_K_isCall 23 = .ok (.ireturn, 1) := by decide +kernel
theorem dd_K_isCase_0 : decode bb_K_isCase 0 = .ok (.iload_n 0, 1) := by decide +kernel
theorem dd_K_isCase_1 : decode bb_K_isCase 1 = .ok (.bipush 12, 2) := by decide +kernel
theorem dd_K_isCase_3 : decode bb_K_isCase 3 = .ok (.if_icmp .eq 9, 3) := by decide +kernel
theorem dd_K_isCase_6 : decode bb_K_isCase 6 = .ok (.iload_n 0, 1) := by decide +kernel
theorem dd_K_isCase_7 : decode bb_K_isCase 7 = .ok (.bipush 22, 2) := by decide +kernel
theorem dd_K_isCase_9 : decode bb_K_isCase 9 = .ok (.if_icmp .ne 7, 3) := by decide +kernel
theorem dd_K_isCase_12 : decode bb_K_isCase 12 = .ok (.iconst 1, 1) := by decide +kernel
theorem dd_K_isCase_13 : decode bb_K_isCase 13 = .ok (.goto 4, 3) := by decide +kernel
theorem dd_K_isCase_16 : decode bb_K_isCase 16 = .ok (.iconst 0, 1) := by decide +kernel
theorem dd_K_isCase_17 : decode bb_K_isCase 17 = .ok (.ireturn, 1) := by decide +kernel
theorem dd_K_isLet_0 : decode bb_K_isLet 0 = .ok (.iload_n 0, 1) := by decide +kernel
theorem dd_K_isLet_1 : decode bb_K_isLet 1 = .ok (.bipush 11, 2) := by decide +kernel
theorem dd_K_isLet_3 : decode bb_K_isLet 3 = .ok (.if_icmp .eq 9, 3) := by decide +kernel
theorem dd_K_isLet_6 : decode bb_K_isLet 6 = .ok (.iload_n 0, 1) := by decide +kernel
theorem dd_K_isLet_7 : decode bb_K_isLet 7 = .ok (.bipush 21, 2) := by decide +kernel
theorem dd_K_isLet_9 : decode bb_K_isLet 9 = .ok (.if_icmp .ne 7, 3) := by decide +kernel
theorem dd_K_isLet_12 : decode bb_K_isLet 12 = .ok (.iconst 1, 1) := by decide +kernel
theorem dd_K_isLet_13 : decode bb_K_isLet 13 = .ok (.goto 4, 3) := by decide +kernel
theorem dd_K_isLet_16 : decode bb_K_isLet 16 = .ok (.iconst 0, 1) := by decide +kernel
theorem dd_K_isLet_17 : decode bb_K_isLet 17 = .ok (.ireturn, 1) := by decide +kernel
theorem dd_K_isBinder_0 : decode bb_K_isBinder 0 = .ok (.iload_n 0, 1) := by decide +kernel
theorem dd_K_isBinder_1 : decode bb_K_isBinder 1 = .ok (.bipush 11, 2) := by decide +kernel
theorem dd_K_isBinder_3 : decode bb_K_isBinder 3 = .ok (.if_icmp .eq 27, 3) := by decide +kernel
theorem dd_K_isBinder_6 : decode bb_K_isBinder 6 = .ok (.iload_n 0, 1) := by decide +kernel
theorem dd_K_isBinder_7 : decode bb_K_isBinder 7 = .ok (.bipush 12, 2) := by decide +kernel
theorem dd_K_isBinder_9 : decode bb_K_isBinder 9 = .ok (.if_icmp .eq 21, 3) := by decide +kernel
theorem dd_K_isBinder_12 : decode bb_K_isBinder 12 = .ok (.iload_n 0, 1) := by decide +kernel
theorem dd_K_isBinder_13 : decode bb_K_isBinder 13 = .ok (.bipush 18, 2) := by decide +kernel
theorem dd_K_isBinder_15 : decode bb_K_isBinder 15 = .ok (.if_icmp .eq 15, 3) := by decide +kernel
theorem dd_K_isBinder_18 : decode bb_K_isBinder 18 = .ok (.iload_n 0, 1) := by decide +kernel
theorem dd_K_isBinder_19 : decode bb_K_isBinder 19 = .ok (.bipush 21, 2) := by decide +kernel
theorem dd_K_isBinder_21 : decode bb_K_isBinder 21 = .ok (.if_icmp .eq 9, 3) := by decide +kernel
theorem dd_K_isBinder_24 : decode bb_K_isBinder 24 = .ok (.iload_n 0, 1) := by decide +kernel
theorem dd_K_isBinder_25 : decode bb_K_isBinder 25 = .ok (.bipush 22, 2) := by decide +kernel
theorem dd_K_isBinder_27 : decode bb_K_isBinder 27 = .ok (.if_icmp .ne 7, 3) := by decide +kernel
theorem dd_K_isBinder_30 : decode bb_K_isBinder 30 = .ok (.iconst 1, 1) := by decide +kernel
theorem dd_K_isBinder_31 : decode bb_K_isBinder 31 = .ok (.goto 4, 3) := by decide +kernel
theorem dd_K_isBinder_34 : decode bb_K_isBinder 34 = .ok (.iconst 0, 1) := by decide +kernel
theorem dd_K_isBinder_35 : decode bb_K_isBinder 35 = .ok (.ireturn, 1) := by decide +kernel
theorem dd_K_isAsLastPart_0 : decode bb_K_isAsLastPart 0 = .ok (.iload_n 0, 1) := by decide +kernel
theorem dd_K_isAsLastPart_1 : decode bb_K_isAsLastPart 1 = .ok (.bipush 10, 2) := by decide +kernel
theorem dd_K_isAsLastPart_3 : decode bb_K_isAsLastPart 3 = .ok (.if_icmp .lt 9, 3) := by decide +kernel
theorem dd_K_isAsLastPart_6 : decode bb_K_isAsLastPart 6 = .ok (.iload_n 0, 1) := by decide +kernel
theorem dd_K_isAsLastPart_7 : decode bb_K_isAsLastPart 7 = .ok (.bipush 12, 2) := by decide +kernel
theorem dd_K_isAsLastPart_9 : decode bb_K_isAsLastPart 9 = .ok (.if_icmp .le 15, 3) := by decide +kernel
theorem dd_K_isAsLastPart_12 : decode bb_K_isAsLastPart 12 = .ok (.iload_n 0, 1) := by decide +kernel
theorem dd_K_isAsLastPart_13 : decode bb_K_isAsLastPart 13 = .ok (.bipush 18, 2) := by decide +kernel
theorem dd_K_isAsLastPart_15 : decode bb_K_isAsLastPart 15 = .ok (.if_icmp .lt 13, 3) := by decide +kernel
theorem dd_K_isAsLastPart_18 : decode bb_K_isAsLastPart 18 = .ok (.iload_n 0, 1) := by decide +kernel
theorem dd_K_isAsLastPart_19 : decode bb_K_isAsLastPart 19 = .ok (.bipush 22, 2) := by decide +kernel
theorem dd_K_isAsLastPart_21 : decode bb_K_isAsLastPart 21 = .ok (.if_icmp .gt 7, 3) := by decide +kernel
theorem dd_K_isAsLastPart_24 : decode bb_K_isAsLastPart 24 = .ok (.iconst 1, 1) := by decide +kernel
theorem dd_K_isAsLastPart_25 : decode bb_K_isAsLastPart 25 = .ok (.goto 4, 3) := by decide +kernel
theorem dd_K_isAsLastPart_28 : decode bb_K_isAsLastPart 28 = .ok (.iconst 0, 1) := by decide +kernel
theorem dd_K_isAsLastPart_29 : decode bb_K_isAsLastPart 29 = .ok (.ireturn, 1) := by decide +kernel
theorem dd_K_wantsChange_0 : decode bb_K_wantsChange 0 = .ok (.iload_n 0, 1) := by decide +kernel
theorem dd_K_wantsChange_1 : decode bb_K_wantsChange 1 = .ok (.tableswitch 55 16 22 #[43, 43, 45, 55, 45, 45, 45], 43) := by decide +kernel
theorem dd_K_wantsChange_44 : decode bb_K_wantsChange 44 = .ok (.iconst 1, 1) := by decide +kernel
theorem dd_K_wantsChange_45 : decode bb_K_wantsChange 45 = .ok (.ireturn, 1) := by decide +kernel
theorem dd_K_wantsChange_46 : decode bb_K_wantsChange 46 = .ok (.iload_n 1, 1) := by decide +kernel
theorem dd_K_wantsChange_47 : decode bb_K_wantsChange 47 = .ok (.ifCond .le 7, 3) := by decide +kernel
theorem dd_K_wantsChange_50 : decode bb_K_wantsChange 50 = .ok (.iconst 1, 1) := by decide +kernel
theorem dd_K_wantsChange_51 : decode bb_K_wantsChange 51 = .ok (.goto 4, 3) := by decide +kernel
theorem dd_K_wantsChange_54 : decode bb_K_wantsChange 54 = .ok (.iconst 0, 1) := by decide +kernel
theorem dd_K_wantsChange_55 : decode bb_K_wantsChange 55 = .ok (.ireturn, 1) := by decide +kernel
theorem dd_K_wantsChange_56 : decode bb_K_wantsChange 56 = .ok (.iconst 0, 1) := by decide +kernel
theorem dd_K_wantsChange_57 : decode bb_K_wantsChange 57 = .ok (.ireturn, 1) := by decide +kernel
theorem dd_K_partsFit_0 : decode bb_K_partsFit 0 = .ok (.iload_n 0, 1) := by decide +kernel
theorem dd_K_partsFit_1 : decode bb_K_partsFit 1 = .ok (.invokestatic 11, 3) := by decide +kernel
theorem dd_K_partsFit_4 : decode bb_K_partsFit 4 = .ok (.ifCond .ne 5, 3) := by decide +kernel
theorem dd_K_partsFit_7 : decode bb_K_partsFit 7 = .ok (.iconst 0, 1) := by decide +kernel
theorem dd_K_partsFit_8 : decode bb_K_partsFit 8 = .ok (.ireturn, 1) := by decide +kernel
theorem dd_K_partsFit_9 : decode bb_K_partsFit 9 = .ok (.getstatic 15, 3) := by decide +kernel
theorem dd_K_partsFit_12 : decode bb_K_partsFit 12 = .ok (.iload_n 0, 1) := by decide +kernel
theorem dd_K_partsFit_13 : decode bb_K_partsFit 13 = .ok (.iaload, 1) := by decide +kernel
theorem dd_K_partsFit_14 : decode bb_K_partsFit 14 = .ok (.iconst (-1), 1) := by decide +kernel
theorem dd_K_partsFit_15 : decode bb_K_partsFit 15 = .ok (.if_icmp .ne 15, 3) := by decide +kernel
theorem dd_K_partsFit_18 : decode bb_K_partsFit 18 = .ok (.iload_n 1, 1) := by decide +kernel
theorem dd_K_partsFit_19 : decode bb_K_partsFit 19 = .ok (.ifCond .lt 7, 3) := by decide +kernel
theorem dd_K_partsFit_22 : decode bb_K_partsFit 22 = .ok (.iconst 1, 1) := by decide +kernel
theorem dd_K_partsFit_23 : decode bb_K_partsFit 23 = .ok (.goto 21, 3) := by decide +kernel
theorem dd_K_partsFit_26 : decode bb_K_partsFit 26 = .ok (.iconst 0, 1) := by decide +kernel
theorem dd_K_partsFit_27 : decode bb_K_partsFit 27 = .ok (.goto 17, 3) := by decide +kernel
theorem dd_K_partsFit_30 : decode bb_K_partsFit 30 = .ok (.iload_n 1, 1) := by decide +kernel
theorem dd_K_partsFit_31 : decode bb_K_partsFit 31 = .ok (.getstatic 15, 3) := by decide +kernel
theorem dd_K_partsFit_34 : decode bb_K_partsFit 34 = .ok (.iload_n 0, 1) := by decide +kernel
theorem dd_K_partsFit_35 : decode bb_K_partsFit 35 = .ok (.iaload, 1) := by decide +kernel
theorem dd_K_partsFit_36 : decode bb_K_partsFit 36 = .ok (.if_icmp .ne 7, 3) := by decide +kernel
theorem dd_K_partsFit_39 : decode bb_K_partsFit 39 = .ok (.iconst 1, 1) := by decide +kernel
theorem dd_K_partsFit_40 : decode bb_K_partsFit 40 = .ok (.goto 4, 3) := by decide +kernel
theorem dd_K_partsFit_43 : decode bb_K_partsFit 43 = .ok (.iconst 0, 1) := by decide +kernel
theorem dd_K_partsFit_44 : decode bb_K_partsFit 44 = .ok (.ireturn, 1) := by decide +kernel
theorem dd_K_namesFit_0 : decode bb_K_namesFit 0 = .ok (.iload_n 0, 1) := by decide +kernel
theorem dd_K_namesFit_1 : decode bb_K_namesFit 1 = .ok (.iconst 1, 1) := by decide +kernel
theorem dd_K_namesFit_2 : decode bb_K_namesFit 2 = .ok (.if_icmp .eq 17, 3) := by decide +kernel
theorem dd_K_namesFit_5 : decode bb_K_namesFit 5 = .ok (.iload_n 0, 1) := by decide +kernel
theorem dd_K_namesFit_6 : decode bb_K_namesFit 6 = .ok (.invokestatic 19, 3) := by decide +kernel
theorem dd_K_namesFit_9 : decode bb_K_namesFit 9 = .ok (.ifCond .ne 10, 3) := by decide +kernel
theorem dd_K_namesFit_12 : decode bb_K_namesFit 12 = .ok (.iload_n 0, 1) := by decide +kernel
theorem dd_K_namesFit_13 : decode bb_K_namesFit 13 = .ok (.invokestatic 22, 3) := by decide +kernel
theorem dd_K_namesFit_16 : decode bb_K_namesFit 16 = .ok (.ifCond .eq 7, 3) := by decide +kernel
theorem dd_K_namesFit_19 : decode bb_K_namesFit 19 = .ok (.iconst 1, 1) := by decide +kernel
theorem dd_K_namesFit_20 : decode bb_K_namesFit 20 = .ok (.goto 4, 3) := by decide +kernel
theorem dd_K_namesFit_23 : decode bb_K_namesFit 23 = .ok (.iconst 0, 1) := by decide +kernel
theorem dd_K_namesFit_24 : decode bb_K_namesFit 24 = .ok (.istore 5, 2) := by decide +kernel
theorem dd_K_namesFit_26 : decode bb_K_namesFit 26 = .ok (.iload 5, 2) := by decide +kernel
theorem dd_K_namesFit_28 : decode bb_K_namesFit 28 = .ok (.ifCond .eq 17, 3) := by decide +kernel
theorem dd_K_namesFit_31 : decode bb_K_namesFit 31 = .ok (.lload_n 1, 1) := by decide +kernel
theorem dd_K_namesFit_32 : decode bb_K_namesFit 32 = .ok (.lconst 0, 1) := by decide +kernel
theorem dd_K_namesFit_33 : decode bb_K_namesFit 33 = .ok (.lcmp, 1) := by decide +kernel
theorem dd_K_namesFit_34 : decode bb_K_namesFit 34 = .ok (.ifCond .le 7, 3) := by decide +kernel
theorem dd_K_namesFit_37 : decode bb_K_namesFit 37 = .ok (.iconst 1, 1) := by decide +kernel
theorem dd_K_namesFit_38 : decode bb_K_namesFit 38 = .ok (.goto 18, 3) := by decide +kernel
theorem dd_K_namesFit_41 : decode bb_K_namesFit 41 = .ok (.iconst 0, 1) := by decide +kernel
theorem dd_K_namesFit_42 : decode bb_K_namesFit 42 = .ok (.goto 14, 3) := by decide +kernel
theorem dd_K_namesFit_45 : decode bb_K_namesFit 45 = .ok (.lload_n 1, 1) := by decide +kernel
theorem dd_K_namesFit_46 : decode bb_K_namesFit 46 = .ok (.lconst 0, 1) := by decide +kernel
theorem dd_K_namesFit_47 : decode bb_K_namesFit 47 = .ok (.lcmp, 1) := by decide +kernel
theorem dd_K_namesFit_48 : decode bb_K_namesFit 48 = .ok (.ifCond .ne 7, 3) := by decide +kernel
theorem dd_K_namesFit_51 : decode bb_K_namesFit 51 = .ok (.iconst 1, 1) := by decide +kernel
theorem dd_K_namesFit_52 : decode bb_K_namesFit 52 = .ok (.goto 4, 3) := by decide +kernel
theorem dd_K_namesFit_55 : decode bb_K_namesFit 55 = .ok (.iconst 0, 1) := by decide +kernel
theorem dd_K_namesFit_56 : decode bb_K_namesFit 56 = .ok (.istore 6, 2) := by decide +kernel
theorem dd_K_namesFit_58 : decode bb_K_namesFit 58 = .ok (.iload_n 0, 1) := by decide +kernel
theorem dd_K_namesFit_59 : decode bb_K_namesFit 59 = .ok (.invokestatic 25, 3) := by decide +kernel
theorem dd_K_namesFit_62 : decode bb_K_namesFit 62 = .ok (.ifCond .eq 23, 3) := by decide +kernel
theorem dd_K_namesFit_65 : decode bb_K_namesFit 65 = .ok (.lload_n 3, 1) := by decide +kernel
theorem dd_K_namesFit_66 : decode bb_K_namesFit 66 = .ok (.lconst 0, 1) := by decide +kernel
theorem dd_K_namesFit_67 : decode bb_K_namesFit 67 = .ok (.lcmp, 1) := by decide +kernel
theorem dd_K_namesFit_68 : decode bb_K_namesFit 68 = .ok (.ifCond .le 13, 3) := by decide +kernel
theorem dd_K_namesFit_71 : decode bb_K_namesFit 71 = .ok (.lload_n 3, 1) := by decide +kernel
theorem dd_K_namesFit_72 : decode bb_K_namesFit 72 = .ok (.lload_n 1, 1) := by decide +kernel
theorem dd_K_namesFit_73 : decode bb_K_namesFit 73 = .ok (.lcmp, 1) := by decide +kernel
theorem dd_K_namesFit_74 : decode bb_K_namesFit 74 = .ok (.ifCond .eq 7, 3) := by decide +kernel
theorem dd_K_namesFit_77 : decode bb_K_namesFit 77 = .ok (.iconst 1, 1) := by decide +kernel
theorem dd_K_namesFit_78 : decode bb_K_namesFit 78 = .ok (.goto 18, 3) := by decide +kernel
theorem dd_K_namesFit_81 : decode bb_K_namesFit 81 = .ok (.iconst 0, 1) := by decide +kernel
theorem dd_K_namesFit_82 : decode bb_K_namesFit 82 = .ok (.goto 14, 3) := by decide +kernel
theorem dd_K_namesFit_85 : decode bb_K_namesFit 85 = .ok (.lload_n 3, 1) := by decide +kernel
theorem dd_K_namesFit_86 : decode bb_K_namesFit 86 = .ok (.lconst 0, 1) := by decide +kernel
theorem dd_K_namesFit_87 : decode bb_K_namesFit 87 = .ok (.lcmp, 1) := by decide +kernel
theorem dd_K_namesFit_88 : decode bb_K_namesFit 88 = .ok (.ifCond .ne 7, 3) := by decide +kernel
theorem dd_K_namesFit_91 : decode bb_K_namesFit 91 = .ok (.iconst 1, 1) := by decide +kernel
theorem dd_K_namesFit_92 : decode bb_K_namesFit 92 = .ok (.goto 4, 3) := by decide +kernel
theorem dd_K_namesFit_95 : decode bb_K_namesFit 95 = .ok (.iconst 0, 1) := by decide +kernel
theorem dd_K_namesFit_96 : decode bb_K_namesFit 96 = .ok (.istore 7, 2) := by decide +kernel
theorem dd_K_namesFit_98 : decode bb_K_namesFit 98 = .ok (.iload 6, 2) := by decide +kernel
theorem dd_K_namesFit_100 : decode bb_K_namesFit 100 = .ok (.ifCond .eq 12, 3) := by decide +kernel
theorem dd_K_namesFit_103 : decode bb_K_namesFit 103 = .ok (.iload 7, 2) := by decide +kernel
theorem dd_K_namesFit_105 : decode bb_K_namesFit 105 = .ok (.ifCond .eq 7, 3) := by decide +kernel
theorem dd_K_namesFit_108 : decode bb_K_namesFit 108 = .ok (.iconst 1, 1) := by decide +kernel
theorem dd_K_namesFit_109 : decode bb_K_namesFit 109 = .ok (.goto 4, 3) := by decide +kernel
theorem dd_K_namesFit_112 : decode bb_K_namesFit 112 = .ok (.iconst 0, 1) := by decide +kernel
theorem dd_K_namesFit_113 : decode bb_K_namesFit 113 = .ok (.ireturn, 1) := by decide +kernel
theorem dd_K_ownType_0 : decode bb_K_ownType 0 = .ok (.iload_n 0, 1) := by decide +kernel
theorem dd_K_ownType_1 : decode bb_K_ownType 1 = .ok (.ifCond .eq 14, 3) := by decide +kernel
theorem dd_K_ownType_4 : decode bb_K_ownType 4 = .ok (.iload_n 0, 1) := by decide +kernel
theorem dd_K_ownType_5 : decode bb_K_ownType 5 = .ok (.iconst 3, 1) := by decide +kernel
theorem dd_K_ownType_6 : decode bb_K_ownType 6 = .ok (.if_icmp .lt 11, 3) := by decide +kernel
theorem dd_K_ownType_9 : decode bb_K_ownType 9 = .ok (.iload_n 0, 1) := by decide +kernel
theorem dd_K_ownType_10 : decode bb_K_ownType 10 = .ok (.bipush 9, 2) := by decide +kernel
theorem dd_K_ownType_12 : decode bb_K_ownType 12 = .ok (.if_icmp .gt 5, 3) := by decide +kernel
theorem dd_K_ownType_15 : decode bb_K_ownType 15 = .ok (.iconst 0, 1) := by decide +kernel
theorem dd_K_ownType_16 : decode bb_K_ownType 16 = .ok (.ireturn, 1) := by decide +kernel
theorem dd_K_ownType_17 : decode bb_K_ownType 17 = .ok (.iload_n 0, 1) := by decide +kernel
theorem dd_K_ownType_18 : decode bb_K_ownType 18 = .ok (.lookupswitch 48 #[(2, 42), (13, 42), (16, 44), (17, 46)], 42) := by decide +kernel
theorem dd_K_ownType_60 : decode bb_K_ownType 60 = .ok (.iconst 1, 1) := by decide +kernel
theorem dd_K_ownType_61 : decode bb_K_ownType 61 = .ok (.ireturn, 1) := by decide +kernel
theorem dd_K_ownType_62 : decode bb_K_ownType 62 = .ok (.iconst 2, 1) := by decide +kernel
theorem dd_K_ownType_63 : decode bb_K_ownType 63 = .ok (.ireturn, 1) := by decide +kernel
theorem dd_K_ownType_64 : decode bb_K_ownType 64 = .ok (.iconst 3, 1) := by decide +kernel
theorem dd_K_ownType_65 : decode bb_K_ownType 65 = .ok (.ireturn, 1) := by decide +kernel
theorem dd_K_ownType_66 : decode bb_K_ownType 66 = .ok (.iconst (-1), 1) := by decide +kernel
theorem dd_K_ownType_67 : decode bb_K_ownType 67 = .ok (.ireturn, 1) := by decide +kernel
theorem dd_N_init_0 : decode bb_N_init 0 = .ok (.aload_n 0, 1) := by decide +kernel
theorem dd_N_init_1 : decode bb_N_init 1 = .ok (.invokespecial 3, 3) := by decide +kernel
theorem dd_N_init_4 : decode bb_N_init 4 = .ok (.aload_n 0, 1) := by decide +kernel
theorem dd_N_init_5 : decode bb_N_init 5 = .ok (.iconst 0, 1) := by decide +kernel
theorem dd_N_init_6 : decode bb_N_init 6 = .ok (.putfield 9, 3) := by decide +kernel
theorem dd_N_init_9 : decode bb_N_init 9 = .ok (.aload_n 0, 1) := by decide +kernel
theorem dd_N_init_10 : decode bb_N_init 10 = .ok (.iconst (-1), 1) := by decide +kernel
theorem dd_N_init_11 : decode bb_N_init 11 = .ok (.putfield 15, 3) := by decide +kernel
theorem dd_N_init_14 : decode bb_N_init 14 = .ok (.aload_n 0, 1) := by decide +kernel
theorem dd_N_init_15 : decode bb_N_init 15 = .ok (.iconst (-1), 1) := by decide +kernel
theorem dd_N_init_16 : decode bb_N_init 16 = .ok (.putfield 18, 3) := by decide +kernel
theorem dd_N_init_19 : decode bb_N_init 19 = .ok (.aload_n 0, 1) := by decide +kernel
theorem dd_N_init_20 : decode bb_N_init 20 = .ok (.iconst (-1), 1) := by decide +kernel
theorem dd_N_init_21 : decode bb_N_init 21 = .ok (.putfield 21, 3) := by decide +kernel
theorem dd_N_init_24 : decode bb_N_init 24 = .ok (.aload_n 0, 1) := by decide +kernel
theorem dd_N_init_25 : decode bb_N_init 25 = .ok (.aconst_null, 1) := by decide +kernel
theorem dd_N_init_26 : decode bb_N_init 26 = .ok (.putfield 24, 3) := by decide +kernel
theorem dd_N_init_29 : decode bb_N_init 29 = .ok (.aload_n 0, 1) := by decide +kernel
theorem dd_N_init_30 : decode bb_N_init 30 = .ok (.iconst 0, 1) := by decide +kernel
theorem dd_N_init_31 : decode bb_N_init 31 = .ok (.putfield 28, 3) := by decide +kernel
theorem dd_N_init_34 : decode bb_N_init 34 = .ok (.aload_n 0, 1) := by decide +kernel
theorem dd_N_init_35 : decode bb_N_init 35 = .ok (.iload_n 1, 1) := by decide +kernel
theorem dd_N_init_36 : decode bb_N_init 36 = .ok (.putfield 31, 3) := by decide +kernel
theorem dd_N_init_39 : decode bb_N_init 39 = .ok (.aload_n 0, 1) := by decide +kernel
theorem dd_N_init_40 : decode bb_N_init 40 = .ok (.aload_n 2, 1) := by decide +kernel
theorem dd_N_init_41 : decode bb_N_init 41 = .ok (.putfield 34, 3) := by decide +kernel
theorem dd_N_init_44 : decode bb_N_init 44 = .ok (.aload_n 0, 1) := by decide +kernel
theorem dd_N_init_45 : decode bb_N_init 45 = .ok (.aload_n 2, 1) := by decide +kernel
theorem dd_N_init_46 : decode bb_N_init 46 = .ok (.getfield 37, 3) := by decide +kernel
theorem dd_N_init_49 : decode bb_N_init 49 = .ok (.putfield 43, 3) := by decide +kernel
theorem dd_N_init_52 : decode bb_N_init 52 = .ok (.aload_n 0, 1) := by decide +kernel
theorem dd_N_init_53 : decode bb_N_init 53 = .ok (.aload_n 2, 1) := by decide +kernel
theorem dd_N_init_54 : decode bb_N_init 54 = .ok (.getfield 37, 3) := by decide +kernel
theorem dd_N_init_57 : decode bb_N_init 57 = .ok (.ifnonnull 7, 3) := by decide +kernel
theorem dd_N_init_60 : decode bb_N_init 60 = .ok (.iconst 0, 1) := by decide +kernel
theorem dd_N_init_61 : decode bb_N_init 61 = .ok (.goto 10, 3) := by decide +kernel
theorem dd_N_init_64 : decode bb_N_init 64 = .ok (.aload_n 2, 1) := by decide +kernel
theorem dd_N_init_65 : decode bb_N_init 65 = .ok (.getfield 37, 3) := by decide +kernel
theorem dd_N_init_68 : decode bb_N_init 68 = .ok (.getfield 9, 3) := by decide +kernel
theorem dd_N_init_71 : decode bb_N_init 71 = .ok (.putfield 46, 3) := by decide +kernel
theorem dd_N_init_74 : decode bb_N_init 74 = .ok (.aload_n 0, 1) := by decide +kernel
theorem dd_N_init_75 : decode bb_N_init 75 = .ok (.iload_n 3, 1) := by decide +kernel
theorem dd_N_init_76 : decode bb_N_init 76 = .ok (.putfield 49, 3) := by decide +kernel
theorem dd_N_init_79 : decode bb_N_init 79 = .ok (.aload_n 0, 1) := by decide +kernel
theorem dd_N_init_80 : decode bb_N_init 80 = .ok (.lload 4, 2) := by decide +kernel
theorem dd_N_init_82 : decode bb_N_init 82 = .ok (.putfield 52, 3) := by decide +kernel
theorem dd_N_init_85 : decode bb_N_init 85 = .ok (.aload_n 0, 1) := by decide +kernel
theorem dd_N_init_86 : decode bb_N_init 86 = .ok (.lload 6, 2) := by decide +kernel
theorem dd_N_init_88 : decode bb_N_init 88 = .ok (.putfield 56, 3) := by decide +kernel
theorem dd_N_init_91 : decode bb_N_init 91 = .ok (.aload_n 0, 1) := by decide +kernel
theorem dd_N_init_92 : decode bb_N_init 92 = .ok (.iload 8, 2) := by decide +kernel
theorem dd_N_init_94 : decode bb_N_init 94 = .ok (.putfield 59, 3) := by decide +kernel
theorem dd_N_init_97 : decode bb_N_init 97 = .ok (.return_, 1) := by decide +kernel
theorem dd_N_isLastPart_0 : decode bb_N_isLastPart 0 = .ok (.aload_n 0, 1) := by decide +kernel
theorem dd_N_isLastPart_1 : decode bb_N_isLastPart 1 = .ok (.getfield 43, 3) := by decide +kernel
theorem dd_N_isLastPart_4 : decode bb_N_isLastPart 4 = .ok (.ifnull 23, 3) := by decide +kernel
theorem dd_N_isLastPart_7 : decode bb_N_isLastPart 7 = .ok (.aload_n 0, 1) := by decide +kernel
theorem dd_N_isLastPart_8 : decode bb_N_isLastPart 8 = .ok (.getfield 46, 3) := by decide +kernel
theorem dd_N_isLastPart_11 : decode bb_N_isLastPart 11 = .ok (.aload_n 0, 1) := by decide +kernel
theorem dd_N_isLastPart_12 : decode bb_N_isLastPart 12 = .ok (.getfield 43, 3) := by decide +kernel
theorem dd_N_isLastPart_15 : decode bb_N_isLastPart 15 = .ok (.getfield 59, 3) := by decide +kernel
theorem dd_N_isLastPart_18 : decode bb_N_isLastPart 18 = .ok (.iconst 1, 1) := by decide +kernel
theorem dd_N_isLastPart_19 : decode bb_N_isLastPart 19 = .ok (.isub, 1) := by decide +kernel
theorem dd_N_isLastPart_20 : decode bb_N_isLastPart 20 = .ok (.if_icmp .ne 7, 3) := by decide +kernel
theorem dd_N_isLastPart_23 : decode bb_N_isLastPart 23 = .ok (.iconst 1, 1) := by decide +kernel
theorem dd_N_isLastPart_24 : decode bb_N_isLastPart 24 = .ok (.goto 4, 3) := by decide +kernel
theorem dd_N_isLastPart_27 : decode bb_N_isLastPart 27 = .ok (.iconst 0, 1) := by decide +kernel
theorem dd_N_isLastPart_28 : decode bb_N_isLastPart 28 = .ok (.ireturn, 1) := by decide +kernel
theorem dd_N_countVariables_0 : decode bb_N_countVariables 0 = .ok (.aload_n 0, 1) := by decide +kernel
theorem dd_N_countVariables_1 : decode bb_N_countVariables 1 = .ok (.getfield 43, 3) := by decide +kernel
theorem dd_N_countVariables_4 : decode bb_N_countVariables 4 = .ok (.ifnonnull 17, 3) := by decide +kernel
theorem dd_N_countVariables_7 : decode bb_N_countVariables 7 = .ok (.aload_n 0, 1) := by decide +kernel
theorem dd_N_countVariables_8 : decode bb_N_countVariables 8 = .ok (.aload_n 0, 1) := by decide +kernel
theorem dd_N_countVariables_9 : decode bb_N_countVariables 9 = .ok (.getfield 34, 3) := by decide +kernel
theorem dd_N_countVariables_12 : decode bb_N_countVariables 12 = .ok (.getfield 62, 3) := by decide +kernel
theorem dd_N_countVariables_15 : decode bb_N_countVariables 15 = .ok (.putfield 28, 3) := by decide +kernel
theorem dd_N_countVariables_18 : decode bb_N_countVariables 18 = .ok (.goto 33, 3) := by decide +kernel
theorem dd_N_countVariables_21 : decode bb_N_countVariables 21 = .ok (.aload_n 0, 1) := by decide +kernel
theorem dd_N_countVariables_22 : decode bb_N_countVariables 22 = .ok (.aload_n 0, 1) := by decide +kernel
theorem dd_N_countVariables_23 : decode bb_N_countVariables 23 = .ok (.getfield 43, 3) := by decide +kernel
theorem dd_N_countVariables_26 : decode bb_N_countVariables 26 = .ok (.getfield 28, 3) := by decide +kernel
theorem dd_N_countVariables_29 : decode bb_N_countVariables 29 = .ok (.aload_n 0, 1) := by decide +kernel
theorem dd_N_countVariables_30 : decode bb_N_countVariables 30 = .ok (.invokevirtual 65, 3) := by decide +kernel
theorem dd_N_countVariables_33 : decode bb_N_countVariables 33 = .ok (.ifCond .eq 13, 3) := by decide +kernel
theorem dd_N_countVariables_36 : decode bb_N_countVariables 36 = .ok (.aload_n 0, 1) := by decide +kernel
theorem dd_N_countVariables_37 : decode bb_N_countVariables 37 = .ok (.getfield 43, 3) := by decide +kernel
theorem dd_N_countVariables_40 : decode bb_N_countVariables 40 = .ok (.invokevirtual 69, 3) := by decide +kernel
theorem dd_N_countVariables_43 : decode bb_N_countVariables 43 = .ok (.goto 4, 3) := by decide +kernel
theorem dd_N_countVariables_46 : decode bb_N_countVariables 46 = .ok (.iconst 0, 1) := by decide +kernel
theorem dd_N_countVariables_47 : decode bb_N_countVariables 47 = .ok (.iadd, 1) := by decide +kernel
theorem dd_N_countVariables_48 : decode bb_N_countVariables 48 = .ok (.putfield 28, 3) := by decide +kernel
theorem dd_N_countVariables_51 : decode bb_N_countVariables 51 = .ok (.return_, 1) := by decide +kernel
theorem dd_N_variablesOfLastPart_0 : decode bb_N_variablesOfLastPart 0 = .ok (.aload_n 0, 1) := by decide +kernel
theorem dd_N_variablesOfLastPart_1 : decode bb_N_variablesOfLastPart 1 = .ok (.getfield 49, 3) := by decide +kernel
theorem dd_N_variablesOfLastPart_4 : decode bb_N_variablesOfLastPart 4 = .ok (.invokestatic 73, 3) := by decide +kernel
theorem dd_N_variablesOfLastPart_7 : decode bb_N_variablesOfLastPart 7 = .ok (.ifCond .ne 5, 3) := by decide +kernel
theorem dd_N_variablesOfLastPart_10 : decode bb_N_variablesOfLastPart 10 = .ok (.iconst 0, 1) := by decide +kernel
theorem dd_N_variablesOfLastPart_11 : decode bb_N_variablesOfLastPart 11 = .ok (.ireturn, 1) := by decide +kernel
theorem dd_N_variablesOfLastPart_12 : decode bb_N_variablesOfLastPart 12 = .ok (.aload_n 0, 1) := by decide +kernel
theorem dd_N_variablesOfLastPart_13 : decode bb_N_variablesOfLastPart 13 = .ok (.getfield 49, 3) := by decide +kernel
theorem dd_N_variablesOfLastPart_16 : decode bb_N_variablesOfLastPart 16 = .ok (.invokestatic 79, 3) := by decide +kernel
theorem dd_N_variablesOfLastPart_19 : decode bb_N_variablesOfLastPart 19 = .ok (.ifCond .eq 7, 3) := by decide +kernel
theorem dd_N_variablesOfLastPart_22 : decode bb_N_variablesOfLastPart 22 = .ok (.iconst 2, 1) := by decide +kernel
theorem dd_N_variablesOfLastPart_23 : decode bb_N_variablesOfLastPart 23 = .ok (.goto 4, 3) := by decide +kernel
theorem dd_N_variablesOfLastPart_26 : decode bb_N_variablesOfLastPart 26 = .ok (.iconst 1, 1) := by decide +kernel
theorem dd_N_variablesOfLastPart_27 : decode bb_N_variablesOfLastPart 27 = .ok (.ireturn, 1) := by decide +kernel
theorem dd_N_bindsInLastPart_0 : decode bb_N_bindsInLastPart 0 = .ok (.aload_n 0, 1) := by decide +kernel
theorem dd_N_bindsInLastPart_1 : decode bb_N_bindsInLastPart 1 = .ok (.getfield 49, 3) := by decide +kernel
theorem dd_N_bindsInLastPart_4 : decode bb_N_bindsInLastPart 4 = .ok (.invokestatic 73, 3) := by decide +kernel
theorem dd_N_bindsInLastPart_7 : decode bb_N_bindsInLastPart 7 = .ok (.ifCond .eq 25, 3) := by decide +kernel
theorem dd_N_bindsInLastPart_10 : decode bb_N_bindsInLastPart 10 = .ok (.aload_n 0, 1) := by decide +kernel
theorem dd_N_bindsInLastPart_11 : decode bb_N_bindsInLastPart 11 = .ok (.getfield 52, 3) := by decide +kernel
theorem dd_N_bindsInLastPart_14 : decode bb_N_bindsInLastPart 14 = .ok (.lload_n 1, 1) := by decide +kernel
theorem dd_N_bindsInLastPart_15 : decode bb_N_bindsInLastPart 15 = .ok (.lcmp, 1) := by decide +kernel
theorem dd_N_bindsInLastPart_16 : decode bb_N_bindsInLastPart 16 = .ok (.ifCond .eq 12, 3) := by decide +kernel
theorem dd_N_bindsInLastPart_19 : decode bb_N_bindsInLastPart 19 = .ok (.aload_n 0, 1) := by decide +kernel
theorem dd_N_bindsInLastPart_20 : decode bb_N_bindsInLastPart 20 = .ok (.getfield 56, 3) := by decide +kernel
theorem dd_N_bindsInLastPart_23 : decode bb_N_bindsInLastPart 23 = .ok (.lload_n 1, 1) := by decide +kernel
theorem dd_N_bindsInLastPart_24 : decode bb_N_bindsInLastPart 24 = .ok (.lcmp, 1) := by decide +kernel
theorem dd_N_bindsInLastPart_25 : decode bb_N_bindsInLastPart 25 = .ok (.ifCond .ne 7, 3) := by decide +kernel
theorem dd_N_bindsInLastPart_28 : decode bb_N_bindsInLastPart 28 = .ok (.iconst 1, 1) := by decide +kernel
theorem dd_N_bindsInLastPart_29 : decode bb_N_bindsInLastPart 29 = .ok (.goto 4, 3) := by decide +kernel
theorem dd_N_bindsInLastPart_32 : decode bb_N_bindsInLastPart 32 = .ok (.iconst 0, 1) := by decide +kernel
theorem dd_N_bindsInLastPart_33 : decode bb_N_bindsInLastPart 33 = .ok (.ireturn, 1) := by decide +kernel
theorem dd_N_bind_0 : decode bb_N_bind 0 = .ok (.aload_n 0, 1) := by decide +kernel
theorem dd_N_bind_1 : decode bb_N_bind 1 = .ok (.astore_n 1, 1) := by decide +kernel
theorem dd_N_bind_2 : decode bb_N_bind 2 = .ok (.aload_n 1, 1) := by decide +kernel
theorem dd_N_bind_3 : decode bb_N_bind 3 = .ok (.getfield 43, 3) := by decide +kernel
theorem dd_N_bind_6 : decode bb_N_bind 6 = .ok (.ifnull 65, 3) := by decide +kernel
theorem dd_N_bind_9 : decode bb_N_bind 9 = .ok (.aload_n 1, 1) := by decide +kernel
theorem dd_N_bind_10 : decode bb_N_bind 10 = .ok (.getfield 43, 3) := by decide +kernel
theorem dd_N_bind_13 : decode bb_N_bind 13 = .ok (.astore_n 2, 1) := by decide +kernel
theorem dd_N_bind_14 : decode bb_N_bind 14 = .ok (.aload_n 1, 1) := by decide +kernel
theorem dd_N_bind_15 : decode bb_N_bind 15 = .ok (.invokevirtual 65, 3) := by decide +kernel
theorem dd_N_bind_18 : decode bb_N_bind 18 = .ok (.ifCond .eq 48, 3) := by decide +kernel
theorem dd_N_bind_21 : decode bb_N_bind 21 = .ok (.aload_n 2, 1) := by decide +kernel
theorem dd_N_bind_22 : decode bb_N_bind 22 = .ok (.aload_n 0, 1) := by decide +kernel
theorem dd_N_bind_23 : decode bb_N_bind 23 = .ok (.getfield 52, 3) := by decide +kernel
theorem dd_N_bind_26 : decode bb_N_bind 26 = .ok (.invokevirtual 82, 3) := by decide +kernel
theorem dd_N_bind_29 : decode bb_N_bind 29 = .ok (.ifCond .eq 37, 3) := by decide +kernel
theorem dd_N_bind_32 : decode bb_N_bind 32 = .ok (.aload_n 0, 1) := by decide +kernel
theorem dd_N_bind_33 : decode bb_N_bind 33 = .ok (.aload_n 2, 1) := by decide +kernel
theorem dd_N_bind_34 : decode bb_N_bind 34 = .ok (.getfield 31, 3) := by decide +kernel
theorem dd_N_bind_37 : decode bb_N_bind 37 = .ok (.putfield 21, 3) := by decide +kernel
theorem dd_N_bind_40 : decode bb_N_bind 40 = .ok (.aload_n 0, 1) := by decide +kernel
theorem dd_N_bind_41 : decode bb_N_bind 41 = .ok (.aload_n 2, 1) := by decide +kernel
theorem dd_N_bind_42 : decode bb_N_bind 42 = .ok (.getfield 56, 3) := by decide +kernel
theorem dd_N_bind_45 : decode bb_N_bind 45 = .ok (.aload_n 0, 1) := by decide +kernel
theorem dd_N_bind_46 : decode bb_N_bind 46 = .ok (.getfield 52, 3) := by decide +kernel
theorem dd_N_bind_49 : decode bb_N_bind 49 = .ok (.lcmp, 1) := by decide +kernel
theorem dd_N_bind_50 : decode bb_N_bind 50 = .ok (.ifCond .ne 7, 3) := by decide +kernel
theorem dd_N_bind_53 : decode bb_N_bind 53 = .ok (.iconst 3, 1) := by decide +kernel
theorem dd_N_bind_54 : decode bb_N_bind 54 = .ok (.goto 7, 3) := by decide +kernel
theorem dd_N_bind_57 : decode bb_N_bind 57 = .ok (.aload_n 2, 1) := by decide +kernel
theorem dd_N_bind_58 : decode bb_N_bind 58 = .ok (.getfield 18, 3) := by decide +kernel
theorem dd_N_bind_61 : decode bb_N_bind 61 = .ok (.putfield 15, 3) := by decide +kernel
theorem dd_N_bind_64 : decode bb_N_bind 64 = .ok (.iconst 1, 1) := by decide +kernel
theorem dd_N_bind_65 : decode bb_N_bind 65 = .ok (.ireturn, 1) := by decide +kernel
theorem dd_N_bind_66 : decode bb_N_bind 66 = .ok (.aload_n 2, 1) := by decide +kernel
theorem dd_N_bind_67 : decode bb_N_bind 67 = .ok (.astore_n 1, 1) := by decide +kernel
theorem dd_N_bind_68 : decode bb_N_bind 68 = .ok (.goto (-66), 3) := by decide +kernel
theorem dd_N_bind_71 : decode bb_N_bind 71 = .ok (.aload_n 0, 1) := by decide +kernel
theorem dd_N_bind_72 : decode bb_N_bind 72 = .ok (.getfield 34, 3) := by decide +kernel
theorem dd_N_bind_75 : decode bb_N_bind 75 = .ok (.aload_n 0, 1) := by decide +kernel
theorem dd_N_bind_76 : decode bb_N_bind 76 = .ok (.getfield 52, 3) := by decide +kernel
theorem dd_N_bind_79 : decode bb_N_bind 79 = .ok (.invokevirtual 88, 3) := by decide +kernel
theorem dd_N_bind_82 : decode bb_N_bind 82 = .ok (.istore_n 2, 1) := by decide +kernel
theorem dd_N_bind_83 : decode bb_N_bind 83 = .ok (.aload_n 0, 1) := by decide +kernel
theorem dd_N_bind_84 : decode bb_N_bind 84 = .ok (.iload_n 2, 1) := by decide +kernel
theorem dd_N_bind_85 : decode bb_N_bind 85 = .ok (.iconst (-1), 1) := by decide +kernel
theorem dd_N_bind_86 : decode bb_N_bind 86 = .ok (.if_icmp .ne 7, 3) := by decide +kernel
theorem dd_N_bind_89 : decode bb_N_bind 89 = .ok (.iconst (-1), 1) := by decide +kernel
theorem dd_N_bind_90 : decode bb_N_bind 90 = .ok (.goto 7, 3) := by decide +kernel
theorem dd_N_bind_93 : decode bb_N_bind 93 = .ok (.bipush (-2), 2) := by decide +kernel
theorem dd_N_bind_95 : decode bb_N_bind 95 = .ok (.iload_n 2, 1) := by decide +kernel
theorem dd_N_bind_96 : decode bb_N_bind 96 = .ok (.isub, 1) := by decide +kernel
theorem dd_N_bind_97 : decode bb_N_bind 97 = .ok (.putfield 21, 3) := by decide +kernel
theorem dd_N_bind_100 : decode bb_N_bind 100 = .ok (.aload_n 0, 1) := by decide +kernel
theorem dd_N_bind_101 : decode bb_N_bind 101 = .ok (.aload_n 0, 1) := by decide +kernel
theorem dd_N_bind_102 : decode bb_N_bind 102 = .ok (.getfield 34, 3) := by decide +kernel
theorem dd_N_bind_105 : decode bb_N_bind 105 = .ok (.iload_n 2, 1) := by decide +kernel
theorem dd_N_bind_106 : decode bb_N_bind 106 = .ok (.invokevirtual 92, 3) := by decide +kernel
theorem dd_N_bind_109 : decode bb_N_bind 109 = .ok (.putfield 15, 3) := by decide +kernel
theorem dd_N_bind_112 : decode bb_N_bind 112 = .ok (.iload_n 2, 1) := by decide +kernel
theorem dd_N_bind_113 : decode bb_N_bind 113 = .ok (.iconst (-1), 1) := by decide +kernel
theorem dd_N_bind_114 : decode bb_N_bind 114 = .ok (.if_icmp .eq 7, 3) := by decide +kernel
theorem dd_N_bind_117 : decode bb_N_bind 117 = .ok (.iconst 1, 1) := by decide +kernel
theorem dd_N_bind_118 : decode bb_N_bind 118 = .ok (.goto 4, 3) := by decide +kernel
theorem dd_N_bind_121 : decode bb_N_bind 121 = .ok (.iconst 0, 1) := by decide +kernel
theorem dd_N_bind_122 : decode bb_N_bind 122 = .ok (.ireturn, 1) := by decide +kernel
theorem dd_N_aimAt_0 : decode bb_N_aimAt 0 = .ok (.aload_n 0, 1) := by decide +kernel
theorem dd_N_aimAt_1 : decode bb_N_aimAt 1 = .ok (.getfield 49, 3) := by decide +kernel
theorem dd_N_aimAt_4 : decode bb_N_aimAt 4 = .ok (.bipush 23, 2) := by decide +kernel
theorem dd_N_aimAt_6 : decode bb_N_aimAt 6 = .ok (.if_icmp .ne 7, 3) := by decide +kernel
theorem dd_N_aimAt_9 : decode bb_N_aimAt 9 = .ok (.iconst 1, 1) := by decide +kernel
theorem dd_N_aimAt_10 : decode bb_N_aimAt 10 = .ok (.goto 4, 3) := by decide +kernel
theorem dd_N_aimAt_13 : decode bb_N_aimAt 13 = .ok (.iconst 0, 1) := by decide +kernel
theorem dd_N_aimAt_14 : decode bb_N_aimAt 14 = .ok (.istore_n 2, 1) := by decide +kernel
theorem dd_N_aimAt_15 : decode bb_N_aimAt 15 = .ok (.aload_n 1, 1) := by decide +kernel
theorem dd_N_aimAt_16 : decode bb_N_aimAt 16 = .ok (.ifnull 22, 3) := by decide +kernel
theorem dd_N_aimAt_19 : decode bb_N_aimAt 19 = .ok (.aload_n 1, 1) := by decide +kernel
theorem dd_N_aimAt_20 : decode bb_N_aimAt 20 = .ok (.getfield 96, 3) := by decide +kernel
theorem dd_N_aimAt_23 : decode bb_N_aimAt 23 = .ok (.iload_n 2, 1) := by decide +kernel
theorem dd_N_aimAt_24 : decode bb_N_aimAt 24 = .ok (.if_icmp .ne 14, 3) := by decide +kernel
theorem dd_N_aimAt_27 : decode bb_N_aimAt 27 = .ok (.aload_n 1, 1) := by decide +kernel
theorem dd_N_aimAt_28 : decode bb_N_aimAt 28 = .ok (.getfield 62, 3) := by decide +kernel
theorem dd_N_aimAt_31 : decode bb_N_aimAt 31 = .ok (.aload_n 0, 1) := by decide +kernel
theorem dd_N_aimAt_32 : decode bb_N_aimAt 32 = .ok (.getfield 59, 3) := by decide +kernel
theorem dd_N_aimAt_35 : decode bb_N_aimAt 35 = .ok (.if_icmp .eq 5, 3) := by decide +kernel
theorem dd_N_aimAt_38 : decode bb_N_aimAt 38 = .ok (.iconst 0, 1) := by decide +kernel
theorem dd_N_aimAt_39 : decode bb_N_aimAt 39 = .ok (.ireturn, 1) := by decide +kernel
theorem dd_N_aimAt_40 : decode bb_N_aimAt 40 = .ok (.aload_n 0, 1) := by decide +kernel
theorem dd_N_aimAt_41 : decode bb_N_aimAt 41 = .ok (.aload_n 1, 1) := by decide +kernel
theorem dd_N_aimAt_42 : decode bb_N_aimAt 42 = .ok (.putfield 24, 3) := by decide +kernel
theorem dd_N_aimAt_45 : decode bb_N_aimAt 45 = .ok (.aload_n 0, 1) := by decide +kernel
theorem dd_N_aimAt_46 : decode bb_N_aimAt 46 = .ok (.aload_n 1, 1) := by decide +kernel
theorem dd_N_aimAt_47 : decode bb_N_aimAt 47 = .ok (.getfield 100, 3) := by decide +kernel
theorem dd_N_aimAt_50 : decode bb_N_aimAt 50 = .ok (.putfield 15, 3) := by decide +kernel
theorem dd_N_aimAt_53 : decode bb_N_aimAt 53 = .ok (.iconst 1, 1) := by decide +kernel
theorem dd_N_aimAt_54 : decode bb_N_aimAt 54 = .ok (.ireturn, 1) := by decide +kernel
theorem dd_N_fits_0 : decode bb_N_fits 0 = .ok (.aload_n 0, 1) := by decide +kernel
theorem dd_N_fits_1 : decode bb_N_fits 1 = .ok (.getfield 43, 3) := by decide +kernel
theorem dd_N_fits_4 : decode bb_N_fits 4 = .ok (.ifnonnull 25, 3) := by decide +kernel
theorem dd_N_fits_7 : decode bb_N_fits 7 = .ok (.aload_n 0, 1) := by decide +kernel
theorem dd_N_fits_8 : decode bb_N_fits 8 = .ok (.getfield 15, 3) := by decide +kernel
theorem dd_N_fits_11 : decode bb_N_fits 11 = .ok (.aload_n 0, 1) := by decide +kernel
theorem dd_N_fits_12 : decode bb_N_fits 12 = .ok (.getfield 34, 3) := by decide +kernel
theorem dd_N_fits_15 : decode bb_N_fits 15 = .ok (.getfield 100, 3) := by decide +kernel
theorem dd_N_fits_18 : decode bb_N_fits 18 = .ok (.if_icmp .ne 7, 3) := by decide +kernel
theorem dd_N_fits_21 : decode bb_N_fits 21 = .ok (.iconst 1, 1) := by decide +kernel
theorem dd_N_fits_22 : decode bb_N_fits 22 = .ok (.goto 22, 3) := by decide +kernel
theorem dd_N_fits_25 : decode bb_N_fits 25 = .ok (.iconst 0, 1) := by decide +kernel
theorem dd_N_fits_26 : decode bb_N_fits 26 = .ok (.goto 18, 3) := by decide +kernel
theorem dd_N_fits_29 : decode bb_N_fits 29 = .ok (.aload_n 0, 1) := by decide +kernel
theorem dd_N_fits_30 : decode bb_N_fits 30 = .ok (.getfield 43, 3) := by decide +kernel
theorem dd_N_fits_33 : decode bb_N_fits 33 = .ok (.aload_n 0, 1) := by decide +kernel
theorem dd_N_fits_34 : decode bb_N_fits 34 = .ok (.getfield 46, 3) := by decide +kernel
theorem dd_N_fits_37 : decode bb_N_fits 37 = .ok (.aload_n 0, 1) := by decide +kernel
theorem dd_N_fits_38 : decode bb_N_fits 38 = .ok (.getfield 15, 3) := by decide +kernel
theorem dd_N_fits_41 : decode bb_N_fits 41 = .ok (.invokevirtual 101, 3) := by decide +kernel
theorem dd_N_fits_44 : decode bb_N_fits 44 = .ok (.ireturn, 1) := by decide +kernel
theorem dd_N_admits_0 : decode bb_N_admits 0 = .ok (.aload_n 0, 1) := by decide +kernel
theorem dd_N_admits_1 : decode bb_N_admits 1 = .ok (.getfield 49, 3) := by decide +kernel
theorem dd_N_admits_4 : decode bb_N_admits 4 = .ok (.tableswitch 225 10 23 #[72, 143, 107, 145, 164, 164, 225, 189, 200, 220, 72, 143, 107, 164], 72) := by decide +kernel
theorem dd_N_admits_76 : decode bb_N_admits 76 = .ok (.iload_n 1, 1) := by decide +kernel
theorem dd_N_admits_77 : decode bb_N_admits 77 = .ok (.ifCond .ne 15, 3) := by decide +kernel
theorem dd_N_admits_80 : decode bb_N_admits 80 = .ok (.iload_n 2, 1) := by decide +kernel
theorem dd_N_admits_81 : decode bb_N_admits 81 = .ok (.ifCond .ne 7, 3) := by decide +kernel
theorem dd_N_admits_84 : decode bb_N_admits 84 = .ok (.iconst 1, 1) := by decide +kernel
theorem dd_N_admits_85 : decode bb_N_admits 85 = .ok (.goto 25, 3) := by decide +kernel
theorem dd_N_admits_88 : decode bb_N_admits 88 = .ok (.iconst 0, 1) := by decide +kernel
theorem dd_N_admits_89 : decode bb_N_admits 89 = .ok (.goto 21, 3) := by decide +kernel
theorem dd_N_admits_92 : decode bb_N_admits 92 = .ok (.iload_n 1, 1) := by decide +kernel
theorem dd_N_admits_93 : decode bb_N_admits 93 = .ok (.iconst 1, 1) := by decide +kernel
theorem dd_N_admits_94 : decode bb_N_admits 94 = .ok (.if_icmp .eq 11, 3) := by decide +kernel
theorem dd_N_admits_97 : decode bb_N_admits 97 = .ok (.iload_n 2, 1) := by decide +kernel
theorem dd_N_admits_98 : decode bb_N_admits 98 = .ok (.aload_n 0, 1) := by decide +kernel
theorem dd_N_admits_99 : decode bb_N_admits 99 = .ok (.getfield 15, 3) := by decide +kernel
theorem dd_N_admits_102 : decode bb_N_admits 102 = .ok (.if_icmp .ne 7, 3) := by decide +kernel
theorem dd_N_admits_105 : decode bb_N_admits 105 = .ok (.iconst 1, 1) := by decide +kernel
theorem dd_N_admits_106 : decode bb_N_admits 106 = .ok (.goto 4, 3) := by decide +kernel
theorem dd_N_admits_109 : decode bb_N_admits 109 = .ok (.iconst 0, 1) := by decide +kernel
theorem dd_N_admits_110 : decode bb_N_admits 110 = .ok (.ireturn, 1) := by decide +kernel
theorem dd_N_admits_111 : decode bb_N_admits 111 = .ok (.iload_n 1, 1) := by decide +kernel
theorem dd_N_admits_112 : decode bb_N_admits 112 = .ok (.ifCond .ne 16, 3) := by decide +kernel
theorem dd_N_admits_115 : decode bb_N_admits 115 = .ok (.iload_n 2, 1) := by decide +kernel
theorem dd_N_admits_116 : decode bb_N_admits 116 = .ok (.iconst 1, 1) := by decide +kernel
theorem dd_N_admits_117 : decode bb_N_admits 117 = .ok (.if_icmp .ne 7, 3) := by decide +kernel
theorem dd_N_admits_120 : decode bb_N_admits 120 = .ok (.iconst 1, 1) := by decide +kernel
theorem dd_N_admits_121 : decode bb_N_admits 121 = .ok (.goto 25, 3) := by decide +kernel
theorem dd_N_admits_124 : decode bb_N_admits 124 = .ok (.iconst 0, 1) := by decide +kernel
theorem dd_N_admits_125 : decode bb_N_admits 125 = .ok (.goto 21, 3) := by decide +kernel
theorem dd_N_admits_128 : decode bb_N_admits 128 = .ok (.iload_n 1, 1) := by decide +kernel
theorem dd_N_admits_129 : decode bb_N_admits 129 = .ok (.iconst 1, 1) := by decide +kernel
theorem dd_N_admits_130 : decode bb_N_admits 130 = .ok (.if_icmp .eq 11, 3) := by decide +kernel
theorem dd_N_admits_133 : decode bb_N_admits 133 = .ok (.iload_n 2, 1) := by decide +kernel
theorem dd_N_admits_134 : decode bb_N_admits 134 = .ok (.aload_n 0, 1) := by decide +kernel
theorem dd_N_admits_135 : decode bb_N_admits 135 = .ok (.getfield 15, 3) := by decide +kernel
theorem dd_N_admits_138 : decode bb_N_admits 138 = .ok (.if_icmp .ne 7, 3) := by decide +kernel
theorem dd_N_admits_141 : decode bb_N_admits 141 = .ok (.iconst 1, 1) := by decide +kernel
theorem dd_N_admits_142 : decode bb_N_admits 142 = .ok (.goto 4, 3) := by decide +kernel
theorem dd_N_admits_145 : decode bb_N_admits 145 = .ok (.iconst 0, 1) := by decide +kernel
theorem dd_N_admits_146 : decode bb_N_admits 146 = .ok (.ireturn, 1) := by decide +kernel
theorem dd_N_admits_147 : decode bb_N_admits 147 = .ok (.iconst 1, 1) := by decide +kernel
theorem dd_N_admits_148 : decode bb_N_admits 148 = .ok (.ireturn, 1) := by decide +kernel
theorem dd_N_admits_149 : decode bb_N_admits 149 = .ok (.iload_n 2, 1) := by decide +kernel
theorem dd_N_admits_150 : decode bb_N_admits 150 = .ok (.iload_n 1, 1) := by decide +kernel
theorem dd_N_admits_151 : decode bb_N_admits 151 = .ok (.ifCond .ne 7, 3) := by decide +kernel
theorem dd_N_admits_154 : decode bb_N_admits 154 = .ok (.iconst 0, 1) := by decide +kernel
theorem dd_N_admits_155 : decode bb_N_admits 155 = .ok (.goto 4, 3) := by decide +kernel
theorem dd_N_admits_158 : decode bb_N_admits 158 = .ok (.iconst 3, 1) := by decide +kernel
theorem dd_N_admits_159 : decode bb_N_admits 159 = .ok (.if_icmp .ne 7, 3) := by decide +kernel
theorem dd_N_admits_162 : decode bb_N_admits 162 = .ok (.iconst 1, 1) := by decide +kernel
theorem dd_N_admits_163 : decode bb_N_admits 163 = .ok (.goto 4, 3) := by decide +kernel
theorem dd_N_admits_166 : decode bb_N_admits 166 = .ok (.iconst 0, 1) := by decide +kernel
theorem dd_N_admits_167 : decode bb_N_admits 167 = .ok (.ireturn, 1) := by decide +kernel
theorem dd_N_admits_168 : decode bb_N_admits 168 = .ok (.aload_n 0, 1) := by decide +kernel
theorem dd_N_admits_169 : decode bb_N_admits 169 = .ok (.getfield 24, 3) := by decide +kernel
theorem dd_N_admits_172 : decode bb_N_admits 172 = .ok (.ifnull 19, 3) := by decide +kernel
theorem dd_N_admits_175 : decode bb_N_admits 175 = .ok (.iload_n 2, 1) := by decide +kernel
theorem dd_N_admits_176 : decode bb_N_admits 176 = .ok (.aload_n 0, 1) := by decide +kernel
theorem dd_N_admits_177 : decode bb_N_admits 177 = .ok (.getfield 24, 3) := by decide +kernel
theorem dd_N_admits_180 : decode bb_N_admits 180 = .ok (.iload_n 1, 1) := by decide +kernel
theorem dd_N_admits_181 : decode bb_N_admits 181 = .ok (.invokevirtual 92, 3) := by decide +kernel
theorem dd_N_admits_184 : decode bb_N_admits 184 = .ok (.if_icmp .ne 7, 3) := by decide +kernel
theorem dd_N_admits_187 : decode bb_N_admits 187 = .ok (.iconst 1, 1) := by decide +kernel
theorem dd_N_admits_188 : decode bb_N_admits 188 = .ok (.goto 4, 3) := by decide +kernel
theorem dd_N_admits_191 : decode bb_N_admits 191 = .ok (.iconst 0, 1) := by decide +kernel
theorem dd_N_admits_192 : decode bb_N_admits 192 = .ok (.ireturn, 1) := by decide +kernel
theorem dd_N_admits_193 : decode bb_N_admits 193 = .ok (.iload_n 2, 1) := by decide +kernel
theorem dd_N_admits_194 : decode bb_N_admits 194 = .ok (.iconst 1, 1) := by decide +kernel
theorem dd_N_admits_195 : decode bb_N_admits 195 = .ok (.if_icmp .ne 7, 3) := by decide +kernel
theorem dd_N_admits_198 : decode bb_N_admits 198 = .ok (.iconst 1, 1) := by decide +kernel
theorem dd_N_admits_199 : decode bb_N_admits 199 = .ok (.goto 4, 3) := by decide +kernel
theorem dd_N_admits_202 : decode bb_N_admits 202 = .ok (.iconst 0, 1) := by decide +kernel
theorem dd_N_admits_203 : decode bb_N_admits 203 = .ok (.ireturn, 1) := by decide +kernel
theorem dd_N_admits_204 : decode bb_N_admits 204 = .ok (.iload_n 1, 1) := by decide +kernel
theorem dd_N_admits_205 : decode bb_N_admits 205 = .ok (.ifCond .gt 13, 3) := by decide +kernel
theorem dd_N_admits_208 : decode bb_N_admits 208 = .ok (.iload_n 2, 1) := by decide +kernel
theorem dd_N_admits_209 : decode bb_N_admits 209 = .ok (.iconst 2, 1) := by decide +kernel
theorem dd_N_admits_210 : decode bb_N_admits 210 = .ok (.if_icmp .eq 8, 3) := by decide +kernel
theorem dd_N_admits_213 : decode bb_N_admits 213 = .ok (.iload_n 2, 1) := by decide +kernel
theorem dd_N_admits_214 : decode bb_N_admits 214 = .ok (.iconst 3, 1) := by decide +kernel
theorem dd_N_admits_215 : decode bb_N_admits 215 = .ok (.if_icmp .ne 7, 3) := by decide +kernel
theorem dd_N_admits_218 : decode bb_N_admits 218 = .ok (.iconst 1, 1) := by decide +kernel
theorem dd_N_admits_219 : decode bb_N_admits 219 = .ok (.goto 4, 3) := by decide +kernel
theorem dd_N_admits_222 : decode bb_N_admits 222 = .ok (.iconst 0, 1) := by decide +kernel
theorem dd_N_admits_223 : decode bb_N_admits 223 = .ok (.ireturn, 1) := by decide +kernel
theorem dd_N_admits_224 : decode bb_N_admits 224 = .ok (.iload_n 2, 1) := by decide +kernel
theorem dd_N_admits_225 : decode bb_N_admits 225 = .ok (.invokestatic 105, 3) := by decide +kernel
theorem dd_N_admits_228 : decode bb_N_admits 228 = .ok (.ireturn, 1) := by decide +kernel
theorem dd_N_admits_229 : decode bb_N_admits 229 = .ok (.iload_n 2, 1) := by decide +kernel
theorem dd_N_admits_230 : decode bb_N_admits 230 = .ok (.ifCond .ne 7, 3) := by decide +kernel
theorem dd_N_admits_233 : decode bb_N_admits 233 = .ok (.iconst 1, 1) := by decide +kernel
theorem dd_N_admits_234 : decode bb_N_admits 234 = .ok (.goto 4, 3) := by decide +kernel
theorem dd_N_admits_237 : decode bb_N_admits 237 = .ok (.iconst 0, 1) := by decide +kernel
theorem dd_N_admits_238 : decode bb_N_admits 238 = .ok (.ireturn, 1) := by decide +kernel
theorem dd_N_hearOf_0 : decode bb_N_hearOf 0 = .ok (.iload_n 1, 1) := by decide +kernel
theorem dd_N_hearOf_1 : decode bb_N_hearOf 1 = .ok (.ifCond .ne 22, 3) := by decide +kernel
theorem dd_N_hearOf_4 : decode bb_N_hearOf 4 = .ok (.aload_n 0, 1) := by decide +kernel
theorem dd_N_hearOf_5 : decode bb_N_hearOf 5 = .ok (.getfield 49, 3) := by decide +kernel
theorem dd_N_hearOf_8 : decode bb_N_hearOf 8 = .ok (.invokestatic 73, 3) := by decide +kernel
theorem dd_N_hearOf_11 : decode bb_N_hearOf 11 = .ok (.ifCond .eq 12, 3) := by decide +kernel
theorem dd_N_hearOf_14 : decode bb_N_hearOf 14 = .ok (.aload_n 0, 1) := by decide +kernel
theorem dd_N_hearOf_15 : decode bb_N_hearOf 15 = .ok (.aload_n 0, 1) := by decide +kernel
theorem dd_N_hearOf_16 : decode bb_N_hearOf 16 = .ok (.iload_n 2, 1) := by decide +kernel
theorem dd_N_hearOf_17 : decode bb_N_hearOf 17 = .ok (.invokevirtual 108, 3) := by decide +kernel
theorem dd_N_hearOf_20 : decode bb_N_hearOf 20 = .ok (.putfield 18, 3) := by decide +kernel
theorem dd_N_hearOf_23 : decode bb_N_hearOf 23 = .ok (.aload_n 0, 1) := by decide +kernel
theorem dd_N_hearOf_24 : decode bb_N_hearOf 24 = .ok (.getfield 49, 3) := by decide +kernel
theorem dd_N_hearOf_27 : decode bb_N_hearOf 27 = .ok (.invokestatic 111, 3) := by decide +kernel
theorem dd_N_hearOf_30 : decode bb_N_hearOf 30 = .ok (.ifCond .eq 8, 3) := by decide +kernel
theorem dd_N_hearOf_33 : decode bb_N_hearOf 33 = .ok (.aload_n 0, 1) := by decide +kernel
theorem dd_N_hearOf_34 : decode bb_N_hearOf 34 = .ok (.iload_n 2, 1) := by decide +kernel
theorem dd_N_hearOf_35 : decode bb_N_hearOf 35 = .ok (.putfield 15, 3) := by decide +kernel
theorem dd_N_hearOf_38 : decode bb_N_hearOf 38 = .ok (.return_, 1) := by decide +kernel
theorem dd_N_typeOfXAfter_0 : decode bb_N_typeOfXAfter 0 = .ok (.aload_n 0, 1) := by decide +kernel
theorem dd_N_typeOfXAfter_1 : decode bb_N_typeOfXAfter 1 = .ok (.getfield 49, 3) := by decide +kernel
theorem dd_N_typeOfXAfter_4 : decode bb_N_typeOfXAfter 4 = .ok (.invokestatic 114, 3) := by decide +kernel
theorem dd_N_typeOfXAfter_7 : decode bb_N_typeOfXAfter 7 = .ok (.ifCond .eq 5, 3) := by decide +kernel
theorem dd_N_typeOfXAfter_10 : decode bb_N_typeOfXAfter 10 = .ok (.iload_n 1, 1) := by decide +kernel
theorem dd_N_typeOfXAfter_11 : decode bb_N_typeOfXAfter 11 = .ok (.ireturn, 1) := by decide +kernel
theorem dd_N_typeOfXAfter_12 : decode bb_N_typeOfXAfter 12 = .ok (.aload_n 0, 1) := by decide +kernel
theorem dd_N_typeOfXAfter_13 : decode bb_N_typeOfXAfter 13 = .ok (.getfield 49, 3) := by decide +kernel
theorem dd_N_typeOfXAfter_16 : decode bb_N_typeOfXAfter 16 = .ok (.bipush 18, 2) := by decide +kernel
theorem dd_N_typeOfXAfter_18 : decode bb_N_typeOfXAfter 18 = .ok (.if_icmp .ne 12, 3) := by decide +kernel
theorem dd_N_typeOfXAfter_21 : decode bb_N_typeOfXAfter 21 = .ok (.iload_n 1, 1) := by decide +kernel
theorem dd_N_typeOfXAfter_22 : decode bb_N_typeOfXAfter 22 = .ok (.iconst 3, 1) := by decide +kernel
theorem dd_N_typeOfXAfter_23 : decode bb_N_typeOfXAfter 23 = .ok (.if_icmp .ne 7, 3) := by decide +kernel
theorem dd_N_typeOfXAfter_26 : decode bb_N_typeOfXAfter 26 = .ok (.iconst 1, 1) := by decide +kernel
theorem dd_N_typeOfXAfter_27 : decode bb_N_typeOfXAfter 27 = .ok (.goto 4, 3) := by decide +kernel
theorem dd_N_typeOfXAfter_30 : decode bb_N_typeOfXAfter 30 = .ok (.iconst 0, 1) := by decide +kernel
theorem dd_N_typeOfXAfter_31 : decode bb_N_typeOfXAfter 31 = .ok (.ireturn, 1) := by decide +kernel
theorem dd_T_isType_0 : decode bb_T_isType 0 = .ok (.iload_n 0, 1) := by decide +kernel
theorem dd_T_isType_1 : decode bb_T_isType 1 = .ok (.ifCond .lt 12, 3) := by decide +kernel
theorem dd_T_isType_4 : decode bb_T_isType 4 = .ok (.iload_n 0, 1) := by decide +kernel
theorem dd_T_isType_5 : decode bb_T_isType 5 = .ok (.iconst 3, 1) := by decide +kernel
theorem dd_T_isType_6 : decode bb_T_isType 6 = .ok (.if_icmp .gt 7, 3) := by decide +kernel
theorem dd_T_isType_9 : decode bb_T_isType 9 = .ok (.iconst 1, 1) := by decide +kernel
theorem dd_T_isType_10 : decode bb_T_isType 10 = .ok (.goto 4, 3) := by decide +kernel
theorem dd_T_isType_13 : decode bb_T_isType 13 = .ok (.iconst 0, 1) := by decide +kernel
theorem dd_T_isType_14 : decode bb_T_isType 14 = .ok (.ireturn, 1) := by decide +kernel
theorem dd_T_isWritten_0 : decode bb_T_isWritten 0 = .ok (.iload_n 0, 1) := by decide +kernel
theorem dd_T_isWritten_1 : decode bb_T_isWritten 1 = .ok (.ifCond .eq 8, 3) := by decide +kernel
theorem dd_T_isWritten_4 : decode bb_T_isWritten 4 = .ok (.iload_n 0, 1) := by decide +kernel
theorem dd_T_isWritten_5 : decode bb_T_isWritten 5 = .ok (.iconst 1, 1) := by decide +kernel
theorem dd_T_isWritten_6 : decode bb_T_isWritten 6 = .ok (.if_icmp .ne 7, 3) := by decide +kernel
theorem dd_T_isWritten_9 : decode bb_T_isWritten 9 = .ok (.iconst 1, 1) := by decide +kernel
theorem dd_T_isWritten_10 : decode bb_T_isWritten 10 = .ok (.goto 4, 3) := by decide +kernel
theorem dd_T_isWritten_13 : decode bb_T_isWritten 13 = .ok (.iconst 0, 1) := by decide +kernel
theorem dd_T_isWritten_14 : decode bb_T_isWritten 14 = .ok (.ireturn, 1) := by decide +kernel
