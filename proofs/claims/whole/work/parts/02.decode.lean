theorem dX0_init_0 : decode cX0_init 0 = .ok (.aload_n 0, 1) := by decide +kernel
theorem dX0_init_1 : decode cX0_init 1 = .ok (.invokespecial 3, 3) := by decide +kernel
theorem dX0_init_4 : decode cX0_init 4 = .ok (.aload_n 0, 1) := by decide +kernel
theorem dX0_init_5 : decode cX0_init 5 = .ok (.iconst (-1), 1) := by decide +kernel
theorem dX0_init_6 : decode cX0_init 6 = .ok (.putfield 9, 3) := by decide +kernel
theorem dX0_init_9 : decode cX0_init 9 = .ok (.return_, 1) := by decide +kernel
theorem dX0_set_0 : decode cX0_set 0 = .ok (.aload_n 0, 1) := by decide +kernel
theorem dX0_set_1 : decode cX0_set 1 = .ok (.iload_n 1, 1) := by decide +kernel
theorem dX0_set_2 : decode cX0_set 2 = .ok (.putfield 9, 3) := by decide +kernel
theorem dX0_set_5 : decode cX0_set 5 = .ok (.aload_n 0, 1) := by decide +kernel
theorem dX0_set_6 : decode cX0_set 6 = .ok (.iload_n 2, 1) := by decide +kernel
theorem dX0_set_7 : decode cX0_set 7 = .ok (.putfield 15, 3) := by decide +kernel
theorem dX0_set_10 : decode cX0_set 10 = .ok (.return_, 1) := by decide +kernel
theorem dX0_stepOf_0 : decode cX0_stepOf 0 = .ok (.aload_n 1, 1) := by decide +kernel
theorem dX0_stepOf_1 : decode cX0_stepOf 1 = .ok (.iload_n 2, 1) := by decide +kernel
theorem dX0_stepOf_2 : decode cX0_stepOf 2 = .ok (.invokevirtual 18, 3) := by decide +kernel
theorem dX0_stepOf_5 : decode cX0_stepOf 5 = .ok (.istore_n 3, 1) := by decide +kernel
theorem dX0_stepOf_6 : decode cX0_stepOf 6 = .ok (.iload_n 2, 1) := by decide +kernel
theorem dX0_stepOf_7 : decode cX0_stepOf 7 = .ok (.aload_n 0, 1) := by decide +kernel
theorem dX0_stepOf_8 : decode cX0_stepOf 8 = .ok (.getfield 9, 3) := by decide +kernel
theorem dX0_stepOf_11 : decode cX0_stepOf 11 = .ok (.if_icmp .ne 17, 3) := by decide +kernel
theorem dX0_stepOf_14 : decode cX0_stepOf 14 = .ok (.iload_n 3, 1) := by decide +kernel
theorem dX0_stepOf_15 : decode cX0_stepOf 15 = .ok (.invokestatic 24, 3) := by decide +kernel
theorem dX0_stepOf_18 : decode cX0_stepOf 18 = .ok (.ifCond .eq 10, 3) := by decide +kernel
theorem dX0_stepOf_21 : decode cX0_stepOf 21 = .ok (.aload_n 0, 1) := by decide +kernel
theorem dX0_stepOf_22 : decode cX0_stepOf 22 = .ok (.getfield 15, 3) := by decide +kernel
theorem dX0_stepOf_25 : decode cX0_stepOf 25 = .ok (.goto 4, 3) := by decide +kernel
theorem dX0_stepOf_28 : decode cX0_stepOf 28 = .ok (.iload_n 3, 1) := by decide +kernel
theorem dX0_stepOf_29 : decode cX0_stepOf 29 = .ok (.ireturn, 1) := by decide +kernel
theorem dX0_operandOf_0 : decode cX0_operandOf 0 = .ok (.iload_n 2, 1) := by decide +kernel
theorem dX0_operandOf_1 : decode cX0_operandOf 1 = .ok (.aload_n 0, 1) := by decide +kernel
theorem dX0_operandOf_2 : decode cX0_operandOf 2 = .ok (.getfield 9, 3) := by decide +kernel
theorem dX0_operandOf_5 : decode cX0_operandOf 5 = .ok (.if_icmp .ne 10, 3) := by decide +kernel
theorem dX0_operandOf_8 : decode cX0_operandOf 8 = .ok (.aload_n 0, 1) := by decide +kernel
theorem dX0_operandOf_9 : decode cX0_operandOf 9 = .ok (.getfield 15, 3) := by decide +kernel
theorem dX0_operandOf_12 : decode cX0_operandOf 12 = .ok (.goto 8, 3) := by decide +kernel
theorem dX0_operandOf_15 : decode cX0_operandOf 15 = .ok (.aload_n 1, 1) := by decide +kernel
theorem dX0_operandOf_16 : decode cX0_operandOf 16 = .ok (.iload_n 2, 1) := by decide +kernel
theorem dX0_operandOf_17 : decode cX0_operandOf 17 = .ok (.invokevirtual 28, 3) := by decide +kernel
theorem dX0_operandOf_20 : decode cX0_operandOf 20 = .ok (.ireturn, 1) := by decide +kernel
theorem dX1_init_0 : decode cX1_init 0 = .ok (.aload_n 0, 1) := by decide +kernel
theorem dX1_init_1 : decode cX1_init 1 = .ok (.invokespecial 3, 3) := by decide +kernel
theorem dX1_init_4 : decode cX1_init 4 = .ok (.aload_n 0, 1) := by decide +kernel
theorem dX1_init_5 : decode cX1_init 5 = .ok (.aload_n 1, 1) := by decide +kernel
theorem dX1_init_6 : decode cX1_init 6 = .ok (.putfield 9, 3) := by decide +kernel
theorem dX1_init_9 : decode cX1_init 9 = .ok (.aload_n 0, 1) := by decide +kernel
theorem dX1_init_10 : decode cX1_init 10 = .ok (.aload_n 2, 1) := by decide +kernel
theorem dX1_init_11 : decode cX1_init 11 = .ok (.putfield 15, 3) := by decide +kernel
theorem dX1_init_14 : decode cX1_init 14 = .ok (.aload_n 0, 1) := by decide +kernel
theorem dX1_init_15 : decode cX1_init 15 = .ok (.new 19, 3) := by decide +kernel
theorem dX1_init_18 : decode cX1_init 18 = .ok (.dup, 1) := by decide +kernel
theorem dX1_init_19 : decode cX1_init 19 = .ok (.invokespecial 21, 3) := by decide +kernel
theorem dX1_init_22 : decode cX1_init 22 = .ok (.putfield 22, 3) := by decide +kernel
theorem dX1_init_25 : decode cX1_init 25 = .ok (.aload_n 0, 1) := by decide +kernel
theorem dX1_init_26 : decode cX1_init 26 = .ok (.sipush 384, 3) := by decide +kernel
theorem dX1_init_29 : decode cX1_init 29 = .ok (.newarray .long, 2) := by decide +kernel
theorem dX1_init_31 : decode cX1_init 31 = .ok (.putfield 26, 3) := by decide +kernel
theorem dX1_init_34 : decode cX1_init 34 = .ok (.aload_n 0, 1) := by decide +kernel
theorem dX1_init_35 : decode cX1_init 35 = .ok (.sipush 384, 3) := by decide +kernel
theorem dX1_init_38 : decode cX1_init 38 = .ok (.newarray .int, 2) := by decide +kernel
theorem dX1_init_40 : decode cX1_init 40 = .ok (.putfield 30, 3) := by decide +kernel
theorem dX1_init_43 : decode cX1_init 43 = .ok (.aload_n 0, 1) := by decide +kernel
theorem dX1_init_44 : decode cX1_init 44 = .ok (.bipush 64, 2) := by decide +kernel
theorem dX1_init_46 : decode cX1_init 46 = .ok (.newarray .int, 2) := by decide +kernel
theorem dX1_init_48 : decode cX1_init 48 = .ok (.putfield 34, 3) := by decide +kernel
theorem dX1_init_51 : decode cX1_init 51 = .ok (.return_, 1) := by decide +kernel
theorem dX1_figureAt_0 : decode cX1_figureAt 0 = .ok (.iload_n 1, 1) := by decide +kernel
theorem dX1_figureAt_1 : decode cX1_figureAt 1 = .ok (.bipush 64, 2) := by decide +kernel
theorem dX1_figureAt_3 : decode cX1_figureAt 3 = .ok (.imul, 1) := by decide +kernel
theorem dX1_figureAt_4 : decode cX1_figureAt 4 = .ok (.iload_n 2, 1) := by decide +kernel
theorem dX1_figureAt_5 : decode cX1_figureAt 5 = .ok (.iadd, 1) := by decide +kernel
theorem dX1_figureAt_6 : decode cX1_figureAt 6 = .ok (.istore_n 3, 1) := by decide +kernel
theorem dX1_figureAt_7 : decode cX1_figureAt 7 = .ok (.iload_n 3, 1) := by decide +kernel
theorem dX1_figureAt_8 : decode cX1_figureAt 8 = .ok (.ifCond .lt 21, 3) := by decide +kernel
theorem dX1_figureAt_11 : decode cX1_figureAt 11 = .ok (.iload_n 3, 1) := by decide +kernel
theorem dX1_figureAt_12 : decode cX1_figureAt 12 = .ok (.aload_n 0, 1) := by decide +kernel
theorem dX1_figureAt_13 : decode cX1_figureAt 13 = .ok (.getfield 26, 3) := by decide +kernel
theorem dX1_figureAt_16 : decode cX1_figureAt 16 = .ok (.arraylength, 1) := by decide +kernel
theorem dX1_figureAt_17 : decode cX1_figureAt 17 = .ok (.if_icmp .ge 12, 3) := by decide +kernel
theorem dX1_figureAt_20 : decode cX1_figureAt 20 = .ok (.aload_n 0, 1) := by decide +kernel
theorem dX1_figureAt_21 : decode cX1_figureAt 21 = .ok (.getfield 26, 3) := by decide +kernel
theorem dX1_figureAt_24 : decode cX1_figureAt 24 = .ok (.iload_n 3, 1) := by decide +kernel
theorem dX1_figureAt_25 : decode cX1_figureAt 25 = .ok (.laload, 1) := by decide +kernel
theorem dX1_figureAt_26 : decode cX1_figureAt 26 = .ok (.goto 4, 3) := by decide +kernel
theorem dX1_figureAt_29 : decode cX1_figureAt 29 = .ok (.lconst 0, 1) := by decide +kernel
theorem dX1_figureAt_30 : decode cX1_figureAt 30 = .ok (.lreturn, 1) := by decide +kernel
theorem dX1_errorAt_0 : decode cX1_errorAt 0 = .ok (.iload_n 1, 1) := by decide +kernel
theorem dX1_errorAt_1 : decode cX1_errorAt 1 = .ok (.bipush 64, 2) := by decide +kernel
theorem dX1_errorAt_3 : decode cX1_errorAt 3 = .ok (.imul, 1) := by decide +kernel
theorem dX1_errorAt_4 : decode cX1_errorAt 4 = .ok (.iload_n 2, 1) := by decide +kernel
theorem dX1_errorAt_5 : decode cX1_errorAt 5 = .ok (.iadd, 1) := by decide +kernel
theorem dX1_errorAt_6 : decode cX1_errorAt 6 = .ok (.istore_n 3, 1) := by decide +kernel
theorem dX1_errorAt_7 : decode cX1_errorAt 7 = .ok (.iload_n 3, 1) := by decide +kernel
theorem dX1_errorAt_8 : decode cX1_errorAt 8 = .ok (.ifCond .lt 21, 3) := by decide +kernel
theorem dX1_errorAt_11 : decode cX1_errorAt 11 = .ok (.iload_n 3, 1) := by decide +kernel
theorem dX1_errorAt_12 : decode cX1_errorAt 12 = .ok (.aload_n 0, 1) := by decide +kernel
theorem dX1_errorAt_13 : decode cX1_errorAt 13 = .ok (.getfield 30, 3) := by decide +kernel
theorem dX1_errorAt_16 : decode cX1_errorAt 16 = .ok (.arraylength, 1) := by decide +kernel
theorem dX1_errorAt_17 : decode cX1_errorAt 17 = .ok (.if_icmp .ge 12, 3) := by decide +kernel
theorem dX1_errorAt_20 : decode cX1_errorAt 20 = .ok (.aload_n 0, 1) := by decide +kernel
theorem dX1_errorAt_21 : decode cX1_errorAt 21 = .ok (.getfield 30, 3) := by decide +kernel
theorem dX1_errorAt_24 : decode cX1_errorAt 24 = .ok (.iload_n 3, 1) := by decide +kernel
theorem dX1_errorAt_25 : decode cX1_errorAt 25 = .ok (.iaload, 1) := by decide +kernel
theorem dX1_errorAt_26 : decode cX1_errorAt 26 = .ok (.goto 4, 3) := by decide +kernel
theorem dX1_errorAt_29 : decode cX1_errorAt 29 = .ok (.iconst 0, 1) := by decide +kernel
theorem dX1_errorAt_30 : decode cX1_errorAt 30 = .ok (.ireturn, 1) := by decide +kernel
theorem dX1_isAlike_0 : decode cX1_isAlike 0 = .ok (.aload_n 0, 1) := by decide +kernel
theorem dX1_isAlike_1 : decode cX1_isAlike 1 = .ok (.iload_n 2, 1) := by decide +kernel
theorem dX1_isAlike_2 : decode cX1_isAlike 2 = .ok (.iload_n 3, 1) := by decide +kernel
theorem dX1_isAlike_3 : decode cX1_isAlike 3 = .ok (.invokevirtual 37, 3) := by decide +kernel
theorem dX1_isAlike_6 : decode cX1_isAlike 6 = .ok (.aload_n 1, 1) := by decide +kernel
theorem dX1_isAlike_7 : decode cX1_isAlike 7 = .ok (.iload_n 2, 1) := by decide +kernel
theorem dX1_isAlike_8 : decode cX1_isAlike 8 = .ok (.iload_n 3, 1) := by decide +kernel
theorem dX1_isAlike_9 : decode cX1_isAlike 9 = .ok (.invokevirtual 37, 3) := by decide +kernel
theorem dX1_isAlike_12 : decode cX1_isAlike 12 = .ok (.if_icmp .ne 23, 3) := by decide +kernel
theorem dX1_isAlike_15 : decode cX1_isAlike 15 = .ok (.aload_n 0, 1) := by decide +kernel
theorem dX1_isAlike_16 : decode cX1_isAlike 16 = .ok (.iload_n 2, 1) := by decide +kernel
theorem dX1_isAlike_17 : decode cX1_isAlike 17 = .ok (.iload_n 3, 1) := by decide +kernel
theorem dX1_isAlike_18 : decode cX1_isAlike 18 = .ok (.invokevirtual 41, 3) := by decide +kernel
theorem dX1_isAlike_21 : decode cX1_isAlike 21 = .ok (.aload_n 1, 1) := by decide +kernel
theorem dX1_isAlike_22 : decode cX1_isAlike 22 = .ok (.iload_n 2, 1) := by decide +kernel
theorem dX1_isAlike_23 : decode cX1_isAlike 23 = .ok (.iload_n 3, 1) := by decide +kernel
theorem dX1_isAlike_24 : decode cX1_isAlike 24 = .ok (.invokevirtual 41, 3) := by decide +kernel
theorem dX1_isAlike_27 : decode cX1_isAlike 27 = .ok (.lcmp, 1) := by decide +kernel
theorem dX1_isAlike_28 : decode cX1_isAlike 28 = .ok (.ifCond .ne 7, 3) := by decide +kernel
theorem dX1_isAlike_31 : decode cX1_isAlike 31 = .ok (.iconst 1, 1) := by decide +kernel
theorem dX1_isAlike_32 : decode cX1_isAlike 32 = .ok (.goto 4, 3) := by decide +kernel
theorem dX1_isAlike_35 : decode cX1_isAlike 35 = .ok (.iconst 0, 1) := by decide +kernel
theorem dX1_isAlike_36 : decode cX1_isAlike 36 = .ok (.ireturn, 1) := by decide +kernel
theorem dX1_settles_0 : decode cX1_settles 0 = .ok (.lload_n 1, 1) := by decide +kernel
theorem dX1_settles_1 : decode cX1_settles 1 = .ok (.aload_n 0, 1) := by decide +kernel
theorem dX1_settles_2 : decode cX1_settles 2 = .ok (.getfield 45, 3) := by decide +kernel
theorem dX1_settles_5 : decode cX1_settles 5 = .ok (.ldc2_w 49, 3) := by decide +kernel
theorem dX1_settles_8 : decode cX1_settles 8 = .ok (.lxor, 1) := by decide +kernel
theorem dX1_settles_9 : decode cX1_settles 9 = .ok (.land, 1) := by decide +kernel
theorem dX1_settles_10 : decode cX1_settles 10 = .ok (.lconst 0, 1) := by decide +kernel
theorem dX1_settles_11 : decode cX1_settles 11 = .ok (.lcmp, 1) := by decide +kernel
theorem dX1_settles_12 : decode cX1_settles 12 = .ok (.ifCond .ne 7, 3) := by decide +kernel
theorem dX1_settles_15 : decode cX1_settles 15 = .ok (.iconst 1, 1) := by decide +kernel
theorem dX1_settles_16 : decode cX1_settles 16 = .ok (.goto 4, 3) := by decide +kernel
theorem dX1_settles_19 : decode cX1_settles 19 = .ok (.iconst 0, 1) := by decide +kernel
theorem dX1_settles_20 : decode cX1_settles 20 = .ok (.ireturn, 1) := by decide +kernel
theorem dX1_reckonOwn_0 : decode cX1_reckonOwn 0 = .ok (.aload_n 0, 1) := by decide +kernel
theorem dX1_reckonOwn_1 : decode cX1_reckonOwn 1 = .ok (.aload_n 1, 1) := by decide +kernel
theorem dX1_reckonOwn_2 : decode cX1_reckonOwn 2 = .ok (.aload_n 0, 1) := by decide +kernel
theorem dX1_reckonOwn_3 : decode cX1_reckonOwn 3 = .ok (.getfield 9, 3) := by decide +kernel
theorem dX1_reckonOwn_6 : decode cX1_reckonOwn 6 = .ok (.invokevirtual 51, 3) := by decide +kernel
theorem dX1_reckonOwn_9 : decode cX1_reckonOwn 9 = .ok (.aload_n 1, 1) := by decide +kernel
theorem dX1_reckonOwn_10 : decode cX1_reckonOwn 10 = .ok (.invokevirtual 57, 3) := by decide +kernel
theorem dX1_reckonOwn_13 : decode cX1_reckonOwn 13 = .ok (.ldc2_w 49, 3) := by decide +kernel
theorem dX1_reckonOwn_16 : decode cX1_reckonOwn 16 = .ok (.lxor, 1) := by decide +kernel
theorem dX1_reckonOwn_17 : decode cX1_reckonOwn 17 = .ok (.lor, 1) := by decide +kernel
theorem dX1_reckonOwn_18 : decode cX1_reckonOwn 18 = .ok (.iconst (-1), 1) := by decide +kernel
theorem dX1_reckonOwn_19 : decode cX1_reckonOwn 19 = .ok (.invokevirtual 62, 3) := by decide +kernel
theorem dX1_reckonOwn_22 : decode cX1_reckonOwn 22 = .ok (.iconst 0, 1) := by decide +kernel
theorem dX1_reckonOwn_23 : decode cX1_reckonOwn 23 = .ok (.istore_n 2, 1) := by decide +kernel
theorem dX1_reckonOwn_24 : decode cX1_reckonOwn 24 = .ok (.iload_n 2, 1) := by decide +kernel
theorem dX1_reckonOwn_25 : decode cX1_reckonOwn 25 = .ok (.bipush 6, 2) := by decide +kernel
theorem dX1_reckonOwn_27 : decode cX1_reckonOwn 27 = .ok (.if_icmp .ge 32, 3) := by decide +kernel
theorem dX1_reckonOwn_30 : decode cX1_reckonOwn 30 = .ok (.aload_n 0, 1) := by decide +kernel
theorem dX1_reckonOwn_31 : decode cX1_reckonOwn 31 = .ok (.getfield 9, 3) := by decide +kernel
theorem dX1_reckonOwn_34 : decode cX1_reckonOwn 34 = .ok (.iload_n 2, 1) := by decide +kernel
theorem dX1_reckonOwn_35 : decode cX1_reckonOwn 35 = .ok (.invokevirtual 66, 3) := by decide +kernel
theorem dX1_reckonOwn_38 : decode cX1_reckonOwn 38 = .ok (.ifCond .eq 21, 3) := by decide +kernel
theorem dX1_reckonOwn_41 : decode cX1_reckonOwn 41 = .ok (.aload_n 0, 1) := by decide +kernel
theorem dX1_reckonOwn_42 : decode cX1_reckonOwn 42 = .ok (.aload_n 1, 1) := by decide +kernel
theorem dX1_reckonOwn_43 : decode cX1_reckonOwn 43 = .ok (.iload_n 2, 1) := by decide +kernel
theorem dX1_reckonOwn_44 : decode cX1_reckonOwn 44 = .ok (.invokevirtual 70, 3) := by decide +kernel
theorem dX1_reckonOwn_47 : decode cX1_reckonOwn 47 = .ok (.aload_n 0, 1) := by decide +kernel
theorem dX1_reckonOwn_48 : decode cX1_reckonOwn 48 = .ok (.aload_n 1, 1) := by decide +kernel
theorem dX1_reckonOwn_49 : decode cX1_reckonOwn 49 = .ok (.iload_n 2, 1) := by decide +kernel
theorem dX1_reckonOwn_50 : decode cX1_reckonOwn 50 = .ok (.invokevirtual 74, 3) := by decide +kernel
theorem dX1_reckonOwn_53 : decode cX1_reckonOwn 53 = .ok (.iinc 2 1, 3) := by decide +kernel
theorem dX1_reckonOwn_56 : decode cX1_reckonOwn 56 = .ok (.goto (-32), 3) := by decide +kernel
theorem dX1_reckonOwn_59 : decode cX1_reckonOwn 59 = .ok (.return_, 1) := by decide +kernel
theorem dX1_reckonRight_0 : decode cX1_reckonRight 0 = .ok (.aload_n 0, 1) := by decide +kernel
theorem dX1_reckonRight_1 : decode cX1_reckonRight 1 = .ok (.getfield 9, 3) := by decide +kernel
theorem dX1_reckonRight_4 : decode cX1_reckonRight 4 = .ok (.invokevirtual 77, 3) := by decide +kernel
theorem dX1_reckonRight_7 : decode cX1_reckonRight 7 = .ok (.iload_n 2, 1) := by decide +kernel
theorem dX1_reckonRight_8 : decode cX1_reckonRight 8 = .ok (.invokestatic 80, 3) := by decide +kernel
theorem dX1_reckonRight_11 : decode cX1_reckonRight 11 = .ok (.ldc2_w 49, 3) := by decide +kernel
theorem dX1_reckonRight_14 : decode cX1_reckonRight 14 = .ok (.lxor, 1) := by decide +kernel
theorem dX1_reckonRight_15 : decode cX1_reckonRight 15 = .ok (.land, 1) := by decide +kernel
theorem dX1_reckonRight_16 : decode cX1_reckonRight 16 = .ok (.lstore 4, 2) := by decide +kernel
theorem dX1_reckonRight_18 : decode cX1_reckonRight 18 = .ok (.aload_n 0, 1) := by decide +kernel
theorem dX1_reckonRight_19 : decode cX1_reckonRight 19 = .ok (.aload_n 1, 1) := by decide +kernel
theorem dX1_reckonRight_20 : decode cX1_reckonRight 20 = .ok (.aload_n 0, 1) := by decide +kernel
theorem dX1_reckonRight_21 : decode cX1_reckonRight 21 = .ok (.getfield 9, 3) := by decide +kernel
theorem dX1_reckonRight_24 : decode cX1_reckonRight 24 = .ok (.invokevirtual 51, 3) := by decide +kernel
theorem dX1_reckonRight_27 : decode cX1_reckonRight 27 = .ok (.aload_n 1, 1) := by decide +kernel
theorem dX1_reckonRight_28 : decode cX1_reckonRight 28 = .ok (.invokevirtual 57, 3) := by decide +kernel
theorem dX1_reckonRight_31 : decode cX1_reckonRight 31 = .ok (.ldc2_w 49, 3) := by decide +kernel
theorem dX1_reckonRight_34 : decode cX1_reckonRight 34 = .ok (.lxor, 1) := by decide +kernel
theorem dX1_reckonRight_35 : decode cX1_reckonRight 35 = .ok (.lor, 1) := by decide +kernel
theorem dX1_reckonRight_36 : decode cX1_reckonRight 36 = .ok (.lload 4, 2) := by decide +kernel
theorem dX1_reckonRight_38 : decode cX1_reckonRight 38 = .ok (.lor, 1) := by decide +kernel
theorem dX1_reckonRight_39 : decode cX1_reckonRight 39 = .ok (.iload_n 2, 1) := by decide +kernel
theorem dX1_reckonRight_40 : decode cX1_reckonRight 40 = .ok (.invokevirtual 62, 3) := by decide +kernel
theorem dX1_reckonRight_43 : decode cX1_reckonRight 43 = .ok (.iconst 0, 1) := by decide +kernel
theorem dX1_reckonRight_44 : decode cX1_reckonRight 44 = .ok (.istore 6, 2) := by decide +kernel
theorem dX1_reckonRight_46 : decode cX1_reckonRight 46 = .ok (.iload 6, 2) := by decide +kernel
theorem dX1_reckonRight_48 : decode cX1_reckonRight 48 = .ok (.bipush 6, 2) := by decide +kernel
theorem dX1_reckonRight_50 : decode cX1_reckonRight 50 = .ok (.if_icmp .ge 44, 3) := by decide +kernel
theorem dX1_reckonRight_53 : decode cX1_reckonRight 53 = .ok (.aload_n 0, 1) := by decide +kernel
theorem dX1_reckonRight_54 : decode cX1_reckonRight 54 = .ok (.getfield 9, 3) := by decide +kernel
theorem dX1_reckonRight_57 : decode cX1_reckonRight 57 = .ok (.iload 6, 2) := by decide +kernel
theorem dX1_reckonRight_59 : decode cX1_reckonRight 59 = .ok (.invokevirtual 66, 3) := by decide +kernel
theorem dX1_reckonRight_62 : decode cX1_reckonRight 62 = .ok (.ifCond .eq 32, 3) := by decide +kernel
theorem dX1_reckonRight_65 : decode cX1_reckonRight 65 = .ok (.aload_n 0, 1) := by decide +kernel
theorem dX1_reckonRight_66 : decode cX1_reckonRight 66 = .ok (.aload_n 1, 1) := by decide +kernel
theorem dX1_reckonRight_67 : decode cX1_reckonRight 67 = .ok (.iload 6, 2) := by decide +kernel
theorem dX1_reckonRight_69 : decode cX1_reckonRight 69 = .ok (.invokevirtual 70, 3) := by decide +kernel
theorem dX1_reckonRight_72 : decode cX1_reckonRight 72 = .ok (.aload_n 0, 1) := by decide +kernel
theorem dX1_reckonRight_73 : decode cX1_reckonRight 73 = .ok (.lload 4, 2) := by decide +kernel
theorem dX1_reckonRight_75 : decode cX1_reckonRight 75 = .ok (.aload_n 3, 1) := by decide +kernel
theorem dX1_reckonRight_76 : decode cX1_reckonRight 76 = .ok (.iload 6, 2) := by decide +kernel
theorem dX1_reckonRight_78 : decode cX1_reckonRight 78 = .ok (.invokevirtual 84, 3) := by decide +kernel
theorem dX1_reckonRight_81 : decode cX1_reckonRight 81 = .ok (.aload_n 0, 1) := by decide +kernel
theorem dX1_reckonRight_82 : decode cX1_reckonRight 82 = .ok (.aload_n 1, 1) := by decide +kernel
theorem dX1_reckonRight_83 : decode cX1_reckonRight 83 = .ok (.iload 6, 2) := by decide +kernel
theorem dX1_reckonRight_85 : decode cX1_reckonRight 85 = .ok (.invokevirtual 74, 3) := by decide +kernel
theorem dX1_reckonRight_88 : decode cX1_reckonRight 88 = .ok (.iinc 6 1, 3) := by decide +kernel
theorem dX1_reckonRight_91 : decode cX1_reckonRight 91 = .ok (.goto (-45), 3) := by decide +kernel
theorem dX1_reckonRight_94 : decode cX1_reckonRight 94 = .ok (.return_, 1) := by decide +kernel
theorem dX1_plan_0 : decode cX1_plan 0 = .ok (.aload_n 0, 1) := by decide +kernel
theorem dX1_plan_1 : decode cX1_plan 1 = .ok (.lload_n 2, 1) := by decide +kernel
theorem dX1_plan_2 : decode cX1_plan 2 = .ok (.putfield 45, 3) := by decide +kernel
theorem dX1_plan_5 : decode cX1_plan 5 = .ok (.aload_n 0, 1) := by decide +kernel
theorem dX1_plan_6 : decode cX1_plan 6 = .ok (.iconst 0, 1) := by decide +kernel
theorem dX1_plan_7 : decode cX1_plan 7 = .ok (.putfield 88, 3) := by decide +kernel
theorem dX1_plan_10 : decode cX1_plan 10 = .ok (.iconst 0, 1) := by decide +kernel
theorem dX1_plan_11 : decode cX1_plan 11 = .ok (.istore 5, 2) := by decide +kernel
theorem dX1_plan_13 : decode cX1_plan 13 = .ok (.iload 5, 2) := by decide +kernel
theorem dX1_plan_15 : decode cX1_plan 15 = .ok (.bipush 64, 2) := by decide +kernel
theorem dX1_plan_17 : decode cX1_plan 17 = .ok (.if_icmp .ge 99, 3) := by decide +kernel
theorem dX1_plan_20 : decode cX1_plan 20 = .ok (.aload_n 0, 1) := by decide +kernel
theorem dX1_plan_21 : decode cX1_plan 21 = .ok (.getfield 45, 3) := by decide +kernel
theorem dX1_plan_24 : decode cX1_plan 24 = .ok (.lstore 6, 2) := by decide +kernel
theorem dX1_plan_26 : decode cX1_plan 26 = .ok (.iconst 0, 1) := by decide +kernel
theorem dX1_plan_27 : decode cX1_plan 27 = .ok (.istore 8, 2) := by decide +kernel
theorem dX1_plan_29 : decode cX1_plan 29 = .ok (.iload 8, 2) := by decide +kernel
theorem dX1_plan_31 : decode cX1_plan 31 = .ok (.bipush 64, 2) := by decide +kernel
theorem dX1_plan_33 : decode cX1_plan 33 = .ok (.if_icmp .ge 64, 3) := by decide +kernel
theorem dX1_plan_36 : decode cX1_plan 36 = .ok (.aload_n 0, 1) := by decide +kernel
theorem dX1_plan_37 : decode cX1_plan 37 = .ok (.getfield 45, 3) := by decide +kernel
theorem dX1_plan_40 : decode cX1_plan 40 = .ok (.iload 8, 2) := by decide +kernel
theorem dX1_plan_42 : decode cX1_plan 42 = .ok (.invokestatic 80, 3) := by decide +kernel
theorem dX1_plan_45 : decode cX1_plan 45 = .ok (.land, 1) := by decide +kernel
theorem dX1_plan_46 : decode cX1_plan 46 = .ok (.lconst 0, 1) := by decide +kernel
theorem dX1_plan_47 : decode cX1_plan 47 = .ok (.lcmp, 1) := by decide +kernel
theorem dX1_plan_48 : decode cX1_plan 48 = .ok (.ifCond .ne 43, 3) := by decide +kernel
theorem dX1_plan_51 : decode cX1_plan 51 = .ok (.iload 8, 2) := by decide +kernel
theorem dX1_plan_53 : decode cX1_plan 53 = .ok (.iload 4, 2) := by decide +kernel
theorem dX1_plan_55 : decode cX1_plan 55 = .ok (.if_icmp .eq 36, 3) := by decide +kernel
theorem dX1_plan_58 : decode cX1_plan 58 = .ok (.aload_n 0, 1) := by decide +kernel
theorem dX1_plan_59 : decode cX1_plan 59 = .ok (.aload_n 1, 1) := by decide +kernel
theorem dX1_plan_60 : decode cX1_plan 60 = .ok (.iload 8, 2) := by decide +kernel
theorem dX1_plan_62 : decode cX1_plan 62 = .ok (.invokevirtual 92, 3) := by decide +kernel
theorem dX1_plan_65 : decode cX1_plan 65 = .ok (.invokevirtual 95, 3) := by decide +kernel
theorem dX1_plan_68 : decode cX1_plan 68 = .ok (.ifCond .eq 23, 3) := by decide +kernel
theorem dX1_plan_71 : decode cX1_plan 71 = .ok (.aload_n 0, 1) := by decide +kernel
theorem dX1_plan_72 : decode cX1_plan 72 = .ok (.dup, 1) := by decide +kernel
theorem dX1_plan_73 : decode cX1_plan 73 = .ok (.getfield 45, 3) := by decide +kernel
theorem dX1_plan_76 : decode cX1_plan 76 = .ok (.iload 8, 2) := by decide +kernel
theorem dX1_plan_78 : decode cX1_plan 78 = .ok (.invokestatic 80, 3) := by decide +kernel
theorem dX1_plan_81 : decode cX1_plan 81 = .ok (.lor, 1) := by decide +kernel
theorem dX1_plan_82 : decode cX1_plan 82 = .ok (.putfield 45, 3) := by decide +kernel
theorem dX1_plan_85 : decode cX1_plan 85 = .ok (.aload_n 0, 1) := by decide +kernel
theorem dX1_plan_86 : decode cX1_plan 86 = .ok (.iload 8, 2) := by decide +kernel
theorem dX1_plan_88 : decode cX1_plan 88 = .ok (.invokevirtual 99, 3) := by decide +kernel
theorem dX1_plan_91 : decode cX1_plan 91 = .ok (.iinc 8 1, 3) := by decide +kernel
theorem dX1_plan_94 : decode cX1_plan 94 = .ok (.goto (-65), 3) := by decide +kernel
theorem dX1_plan_97 : decode cX1_plan 97 = .ok (.aload_n 0, 1) := by decide +kernel
theorem dX1_plan_98 : decode cX1_plan 98 = .ok (.getfield 45, 3) := by decide +kernel
theorem dX1_plan_101 : decode cX1_plan 101 = .ok (.lload 6, 2) := by decide +kernel
theorem dX1_plan_103 : decode cX1_plan 103 = .ok (.lcmp, 1) := by decide +kernel
theorem dX1_plan_104 : decode cX1_plan 104 = .ok (.ifCond .ne 6, 3) := by decide +kernel
theorem dX1_plan_107 : decode cX1_plan 107 = .ok (.goto 9, 3) := by decide +kernel
theorem dX1_plan_110 : decode cX1_plan 110 = .ok (.iinc 5 1, 3) := by decide +kernel
theorem dX1_plan_113 : decode cX1_plan 113 = .ok (.goto (-100), 3) := by decide +kernel
theorem dX1_plan_116 : decode cX1_plan 116 = .ok (.iload 4, 2) := by decide +kernel
theorem dX1_plan_118 : decode cX1_plan 118 = .ok (.iconst (-1), 1) := by decide +kernel
theorem dX1_plan_119 : decode cX1_plan 119 = .ok (.if_icmp .eq 37, 3) := by decide +kernel
theorem dX1_plan_122 : decode cX1_plan 122 = .ok (.aload_n 0, 1) := by decide +kernel
theorem dX1_plan_123 : decode cX1_plan 123 = .ok (.getfield 45, 3) := by decide +kernel
theorem dX1_plan_126 : decode cX1_plan 126 = .ok (.iload 4, 2) := by decide +kernel
theorem dX1_plan_128 : decode cX1_plan 128 = .ok (.invokestatic 80, 3) := by decide +kernel
theorem dX1_plan_131 : decode cX1_plan 131 = .ok (.land, 1) := by decide +kernel
theorem dX1_plan_132 : decode cX1_plan 132 = .ok (.lconst 0, 1) := by decide +kernel
theorem dX1_plan_133 : decode cX1_plan 133 = .ok (.lcmp, 1) := by decide +kernel
theorem dX1_plan_134 : decode cX1_plan 134 = .ok (.ifCond .ne 22, 3) := by decide +kernel
theorem dX1_plan_137 : decode cX1_plan 137 = .ok (.aload_n 0, 1) := by decide +kernel
theorem dX1_plan_138 : decode cX1_plan 138 = .ok (.aload_n 1, 1) := by decide +kernel
theorem dX1_plan_139 : decode cX1_plan 139 = .ok (.iload 4, 2) := by decide +kernel
theorem dX1_plan_141 : decode cX1_plan 141 = .ok (.invokevirtual 92, 3) := by decide +kernel
theorem dX1_plan_144 : decode cX1_plan 144 = .ok (.invokevirtual 95, 3) := by decide +kernel
theorem dX1_plan_147 : decode cX1_plan 147 = .ok (.ifCond .eq 9, 3) := by decide +kernel
theorem dX1_plan_150 : decode cX1_plan 150 = .ok (.aload_n 0, 1) := by decide +kernel
theorem dX1_plan_151 : decode cX1_plan 151 = .ok (.iload 4, 2) := by decide +kernel
theorem dX1_plan_153 : decode cX1_plan 153 = .ok (.invokevirtual 99, 3) := by decide +kernel
theorem dX1_plan_156 : decode cX1_plan 156 = .ok (.return_, 1) := by decide +kernel
theorem dX1_append_0 : decode cX1_append 0 = .ok (.aload_n 0, 1) := by decide +kernel
theorem dX1_append_1 : decode cX1_append 1 = .ok (.getfield 88, 3) := by decide +kernel
theorem dX1_append_4 : decode cX1_append 4 = .ok (.ifCond .lt 35, 3) := by decide +kernel
theorem dX1_append_7 : decode cX1_append 7 = .ok (.aload_n 0, 1) := by decide +kernel
theorem dX1_append_8 : decode cX1_append 8 = .ok (.getfield 88, 3) := by decide +kernel
theorem dX1_append_11 : decode cX1_append 11 = .ok (.aload_n 0, 1) := by decide +kernel
theorem dX1_append_12 : decode cX1_append 12 = .ok (.getfield 34, 3) := by decide +kernel
theorem dX1_append_15 : decode cX1_append 15 = .ok (.arraylength, 1) := by decide +kernel
theorem dX1_append_16 : decode cX1_append 16 = .ok (.if_icmp .ge 23, 3) := by decide +kernel
theorem dX1_append_19 : decode cX1_append 19 = .ok (.aload_n 0, 1) := by decide +kernel
theorem dX1_append_20 : decode cX1_append 20 = .ok (.getfield 34, 3) := by decide +kernel
theorem dX1_append_23 : decode cX1_append 23 = .ok (.aload_n 0, 1) := by decide +kernel
theorem dX1_append_24 : decode cX1_append 24 = .ok (.getfield 88, 3) := by decide +kernel
theorem dX1_append_27 : decode cX1_append 27 = .ok (.iload_n 1, 1) := by decide +kernel
theorem dX1_append_28 : decode cX1_append 28 = .ok (.iastore, 1) := by decide +kernel
theorem dX1_append_29 : decode cX1_append 29 = .ok (.aload_n 0, 1) := by decide +kernel
theorem dX1_append_30 : decode cX1_append 30 = .ok (.dup, 1) := by decide +kernel
theorem dX1_append_31 : decode cX1_append 31 = .ok (.getfield 88, 3) := by decide +kernel
theorem dX1_append_34 : decode cX1_append 34 = .ok (.iconst 1, 1) := by decide +kernel
theorem dX1_append_35 : decode cX1_append 35 = .ok (.iadd, 1) := by decide +kernel
theorem dX1_append_36 : decode cX1_append 36 = .ok (.putfield 88, 3) := by decide +kernel
theorem dX1_append_39 : decode cX1_append 39 = .ok (.return_, 1) := by decide +kernel
theorem dX1_layHeld_0 : decode cX1_layHeld 0 = .ok (.iconst 0, 1) := by decide +kernel
theorem dX1_layHeld_1 : decode cX1_layHeld 1 = .ok (.istore_n 3, 1) := by decide +kernel
theorem dX1_layHeld_2 : decode cX1_layHeld 2 = .ok (.iload_n 3, 1) := by decide +kernel
theorem dX1_layHeld_3 : decode cX1_layHeld 3 = .ok (.bipush 64, 2) := by decide +kernel
theorem dX1_layHeld_5 : decode cX1_layHeld 5 = .ok (.if_icmp .ge 73, 3) := by decide +kernel
theorem dX1_layHeld_8 : decode cX1_layHeld 8 = .ok (.aload_n 0, 1) := by decide +kernel
theorem dX1_layHeld_9 : decode cX1_layHeld 9 = .ok (.getfield 9, 3) := by decide +kernel
theorem dX1_layHeld_12 : decode cX1_layHeld 12 = .ok (.iload_n 3, 1) := by decide +kernel
theorem dX1_layHeld_13 : decode cX1_layHeld 13 = .ok (.invokevirtual 103, 3) := by decide +kernel
theorem dX1_layHeld_16 : decode cX1_layHeld 16 = .ok (.ifCond .eq 23, 3) := by decide +kernel
theorem dX1_layHeld_19 : decode cX1_layHeld 19 = .ok (.aload_n 0, 1) := by decide +kernel
theorem dX1_layHeld_20 : decode cX1_layHeld 20 = .ok (.iload_n 2, 1) := by decide +kernel
theorem dX1_layHeld_21 : decode cX1_layHeld 21 = .ok (.iload_n 3, 1) := by decide +kernel
theorem dX1_layHeld_22 : decode cX1_layHeld 22 = .ok (.aload_n 0, 1) := by decide +kernel
theorem dX1_layHeld_23 : decode cX1_layHeld 23 = .ok (.getfield 9, 3) := by decide +kernel
theorem dX1_layHeld_26 : decode cX1_layHeld 26 = .ok (.iload_n 2, 1) := by decide +kernel
theorem dX1_layHeld_27 : decode cX1_layHeld 27 = .ok (.iload_n 3, 1) := by decide +kernel
theorem dX1_layHeld_28 : decode cX1_layHeld 28 = .ok (.invokevirtual 106, 3) := by decide +kernel
theorem dX1_layHeld_31 : decode cX1_layHeld 31 = .ok (.i2l, 1) := by decide +kernel
theorem dX1_layHeld_32 : decode cX1_layHeld 32 = .ok (.iconst 0, 1) := by decide +kernel
theorem dX1_layHeld_33 : decode cX1_layHeld 33 = .ok (.invokevirtual 109, 3) := by decide +kernel
theorem dX1_layHeld_36 : decode cX1_layHeld 36 = .ok (.goto 36, 3) := by decide +kernel
theorem dX1_layHeld_39 : decode cX1_layHeld 39 = .ok (.aload_n 1, 1) := by decide +kernel
theorem dX1_layHeld_40 : decode cX1_layHeld 40 = .ok (.iload_n 3, 1) := by decide +kernel
theorem dX1_layHeld_41 : decode cX1_layHeld 41 = .ok (.invokevirtual 113, 3) := by decide +kernel
theorem dX1_layHeld_44 : decode cX1_layHeld 44 = .ok (.iconst 2, 1) := by decide +kernel
theorem dX1_layHeld_45 : decode cX1_layHeld 45 = .ok (.if_icmp .ne 14, 3) := by decide +kernel
theorem dX1_layHeld_48 : decode cX1_layHeld 48 = .ok (.aload_n 0, 1) := by decide +kernel
theorem dX1_layHeld_49 : decode cX1_layHeld 49 = .ok (.iload_n 2, 1) := by decide +kernel
theorem dX1_layHeld_50 : decode cX1_layHeld 50 = .ok (.iload_n 3, 1) := by decide +kernel
theorem dX1_layHeld_51 : decode cX1_layHeld 51 = .ok (.lconst 0, 1) := by decide +kernel
theorem dX1_layHeld_52 : decode cX1_layHeld 52 = .ok (.iconst 1, 1) := by decide +kernel
theorem dX1_layHeld_53 : decode cX1_layHeld 53 = .ok (.invokevirtual 109, 3) := by decide +kernel
theorem dX1_layHeld_56 : decode cX1_layHeld 56 = .ok (.goto 16, 3) := by decide +kernel
theorem dX1_layHeld_59 : decode cX1_layHeld 59 = .ok (.aload_n 0, 1) := by decide +kernel
theorem dX1_layHeld_60 : decode cX1_layHeld 60 = .ok (.iload_n 2, 1) := by decide +kernel
theorem dX1_layHeld_61 : decode cX1_layHeld 61 = .ok (.iload_n 3, 1) := by decide +kernel
theorem dX1_layHeld_62 : decode cX1_layHeld 62 = .ok (.aload_n 1, 1) := by decide +kernel
theorem dX1_layHeld_63 : decode cX1_layHeld 63 = .ok (.iload_n 3, 1) := by decide +kernel
theorem dX1_layHeld_64 : decode cX1_layHeld 64 = .ok (.invokevirtual 117, 3) := by decide +kernel
theorem dX1_layHeld_67 : decode cX1_layHeld 67 = .ok (.i2l, 1) := by decide +kernel
theorem dX1_layHeld_68 : decode cX1_layHeld 68 = .ok (.iconst 0, 1) := by decide +kernel
theorem dX1_layHeld_69 : decode cX1_layHeld 69 = .ok (.invokevirtual 109, 3) := by decide +kernel
theorem dX1_layHeld_72 : decode cX1_layHeld 72 = .ok (.iinc 3 1, 3) := by decide +kernel
theorem dX1_layHeld_75 : decode cX1_layHeld 75 = .ok (.goto (-73), 3) := by decide +kernel
theorem dX1_layHeld_78 : decode cX1_layHeld 78 = .ok (.return_, 1) := by decide +kernel
theorem dX1_layLent_0 : decode cX1_layLent 0 = .ok (.iconst 0, 1) := by decide +kernel
theorem dX1_layLent_1 : decode cX1_layLent 1 = .ok (.istore 5, 2) := by decide +kernel
theorem dX1_layLent_3 : decode cX1_layLent 3 = .ok (.iload 5, 2) := by decide +kernel
theorem dX1_layLent_5 : decode cX1_layLent 5 = .ok (.bipush 64, 2) := by decide +kernel
theorem dX1_layLent_7 : decode cX1_layLent 7 = .ok (.if_icmp .ge 45, 3) := by decide +kernel
theorem dX1_layLent_10 : decode cX1_layLent 10 = .ok (.lload_n 1, 1) := by decide +kernel
theorem dX1_layLent_11 : decode cX1_layLent 11 = .ok (.iload 5, 2) := by decide +kernel
theorem dX1_layLent_13 : decode cX1_layLent 13 = .ok (.invokestatic 80, 3) := by decide +kernel
theorem dX1_layLent_16 : decode cX1_layLent 16 = .ok (.land, 1) := by decide +kernel
theorem dX1_layLent_17 : decode cX1_layLent 17 = .ok (.lconst 0, 1) := by decide +kernel
theorem dX1_layLent_18 : decode cX1_layLent 18 = .ok (.lcmp, 1) := by decide +kernel
theorem dX1_layLent_19 : decode cX1_layLent 19 = .ok (.ifCond .eq 27, 3) := by decide +kernel
theorem dX1_layLent_22 : decode cX1_layLent 22 = .ok (.aload_n 0, 1) := by decide +kernel
theorem dX1_layLent_23 : decode cX1_layLent 23 = .ok (.iload 4, 2) := by decide +kernel
theorem dX1_layLent_25 : decode cX1_layLent 25 = .ok (.iload 5, 2) := by decide +kernel
theorem dX1_layLent_27 : decode cX1_layLent 27 = .ok (.aload_n 3, 1) := by decide +kernel
theorem dX1_layLent_28 : decode cX1_layLent 28 = .ok (.iload 4, 2) := by decide +kernel
theorem dX1_layLent_30 : decode cX1_layLent 30 = .ok (.iload 5, 2) := by decide +kernel
theorem dX1_layLent_32 : decode cX1_layLent 32 = .ok (.invokevirtual 41, 3) := by decide +kernel
theorem dX1_layLent_35 : decode cX1_layLent 35 = .ok (.aload_n 3, 1) := by decide +kernel
theorem dX1_layLent_36 : decode cX1_layLent 36 = .ok (.iload 4, 2) := by decide +kernel
theorem dX1_layLent_38 : decode cX1_layLent 38 = .ok (.iload 5, 2) := by decide +kernel
theorem dX1_layLent_40 : decode cX1_layLent 40 = .ok (.invokevirtual 37, 3) := by decide +kernel
theorem dX1_layLent_43 : decode cX1_layLent 43 = .ok (.invokevirtual 109, 3) := by decide +kernel
theorem dX1_layLent_46 : decode cX1_layLent 46 = .ok (.iinc 5 1, 3) := by decide +kernel
theorem dX1_layLent_49 : decode cX1_layLent 49 = .ok (.goto (-46), 3) := by decide +kernel
theorem dX1_layLent_52 : decode cX1_layLent 52 = .ok (.return_, 1) := by decide +kernel
theorem dX1_follow_0 : decode cX1_follow 0 = .ok (.iconst 0, 1) := by decide +kernel
theorem dX1_follow_1 : decode cX1_follow 1 = .ok (.istore_n 3, 1) := by decide +kernel
theorem dX1_follow_2 : decode cX1_follow 2 = .ok (.iload_n 3, 1) := by decide +kernel
theorem dX1_follow_3 : decode cX1_follow 3 = .ok (.aload_n 0, 1) := by decide +kernel
theorem dX1_follow_4 : decode cX1_follow 4 = .ok (.getfield 88, 3) := by decide +kernel
theorem dX1_follow_7 : decode cX1_follow 7 = .ok (.if_icmp .ge 75, 3) := by decide +kernel
theorem dX1_follow_10 : decode cX1_follow 10 = .ok (.iload_n 3, 1) := by decide +kernel
theorem dX1_follow_11 : decode cX1_follow 11 = .ok (.aload_n 0, 1) := by decide +kernel
theorem dX1_follow_12 : decode cX1_follow 12 = .ok (.getfield 34, 3) := by decide +kernel
theorem dX1_follow_15 : decode cX1_follow 15 = .ok (.arraylength, 1) := by decide +kernel
theorem dX1_follow_16 : decode cX1_follow 16 = .ok (.if_icmp .ge 66, 3) := by decide +kernel
theorem dX1_follow_19 : decode cX1_follow 19 = .ok (.aload_n 1, 1) := by decide +kernel
theorem dX1_follow_20 : decode cX1_follow 20 = .ok (.aload_n 0, 1) := by decide +kernel
theorem dX1_follow_21 : decode cX1_follow 21 = .ok (.getfield 34, 3) := by decide +kernel
theorem dX1_follow_24 : decode cX1_follow 24 = .ok (.iload_n 3, 1) := by decide +kernel
theorem dX1_follow_25 : decode cX1_follow 25 = .ok (.iaload, 1) := by decide +kernel
theorem dX1_follow_26 : decode cX1_follow 26 = .ok (.invokevirtual 120, 3) := by decide +kernel
theorem dX1_follow_29 : decode cX1_follow 29 = .ok (.astore 4, 2) := by decide +kernel
theorem dX1_follow_31 : decode cX1_follow 31 = .ok (.aload 4, 2) := by decide +kernel
theorem dX1_follow_33 : decode cX1_follow 33 = .ok (.ifnull 43, 3) := by decide +kernel
theorem dX1_follow_36 : decode cX1_follow 36 = .ok (.aload_n 0, 1) := by decide +kernel
theorem dX1_follow_37 : decode cX1_follow 37 = .ok (.getfield 15, 3) := by decide +kernel
theorem dX1_follow_40 : decode cX1_follow 40 = .ok (.aload 4, 2) := by decide +kernel
theorem dX1_follow_42 : decode cX1_follow 42 = .ok (.aload_n 0, 1) := by decide +kernel
theorem dX1_follow_43 : decode cX1_follow 43 = .ok (.getfield 22, 3) := by decide +kernel
theorem dX1_follow_46 : decode cX1_follow 46 = .ok (.aload_n 0, 1) := by decide +kernel
theorem dX1_follow_47 : decode cX1_follow 47 = .ok (.iload_n 2, 1) := by decide +kernel
theorem dX1_follow_48 : decode cX1_follow 48 = .ok (.invokevirtual 124, 3) := by decide +kernel
theorem dX1_follow_51 : decode cX1_follow 51 = .ok (.aload_n 0, 1) := by decide +kernel
theorem dX1_follow_52 : decode cX1_follow 52 = .ok (.iload_n 2, 1) := by decide +kernel
theorem dX1_follow_53 : decode cX1_follow 53 = .ok (.aload_n 0, 1) := by decide +kernel
theorem dX1_follow_54 : decode cX1_follow 54 = .ok (.getfield 34, 3) := by decide +kernel
theorem dX1_follow_57 : decode cX1_follow 57 = .ok (.iload_n 3, 1) := by decide +kernel
theorem dX1_follow_58 : decode cX1_follow 58 = .ok (.iaload, 1) := by decide +kernel
theorem dX1_follow_59 : decode cX1_follow 59 = .ok (.aload_n 0, 1) := by decide +kernel
theorem dX1_follow_60 : decode cX1_follow 60 = .ok (.getfield 15, 3) := by decide +kernel
theorem dX1_follow_63 : decode cX1_follow 63 = .ok (.invokevirtual 130, 3) := by decide +kernel
theorem dX1_follow_66 : decode cX1_follow 66 = .ok (.aload_n 0, 1) := by decide +kernel
theorem dX1_follow_67 : decode cX1_follow 67 = .ok (.getfield 15, 3) := by decide +kernel
theorem dX1_follow_70 : decode cX1_follow 70 = .ok (.invokevirtual 133, 3) := by decide +kernel
theorem dX1_follow_73 : decode cX1_follow 73 = .ok (.invokevirtual 109, 3) := by decide +kernel
theorem dX1_follow_76 : decode cX1_follow 76 = .ok (.iinc 3 1, 3) := by decide +kernel
theorem dX1_follow_79 : decode cX1_follow 79 = .ok (.goto (-77), 3) := by decide +kernel
theorem dX1_follow_82 : decode cX1_follow 82 = .ok (.return_, 1) := by decide +kernel
theorem dX1_put_0 : decode cX1_put 0 = .ok (.iload_n 1, 1) := by decide +kernel
theorem dX1_put_1 : decode cX1_put 1 = .ok (.bipush 64, 2) := by decide +kernel
theorem dX1_put_3 : decode cX1_put 3 = .ok (.imul, 1) := by decide +kernel
theorem dX1_put_4 : decode cX1_put 4 = .ok (.iload_n 2, 1) := by decide +kernel
theorem dX1_put_5 : decode cX1_put 5 = .ok (.iadd, 1) := by decide +kernel
theorem dX1_put_6 : decode cX1_put 6 = .ok (.istore 6, 2) := by decide +kernel
theorem dX1_put_8 : decode cX1_put 8 = .ok (.iload 6, 2) := by decide +kernel
theorem dX1_put_10 : decode cX1_put 10 = .ok (.ifCond .lt 40, 3) := by decide +kernel
theorem dX1_put_13 : decode cX1_put 13 = .ok (.iload 6, 2) := by decide +kernel
theorem dX1_put_15 : decode cX1_put 15 = .ok (.aload_n 0, 1) := by decide +kernel
theorem dX1_put_16 : decode cX1_put 16 = .ok (.getfield 26, 3) := by decide +kernel
theorem dX1_put_19 : decode cX1_put 19 = .ok (.arraylength, 1) := by decide +kernel
theorem dX1_put_20 : decode cX1_put 20 = .ok (.if_icmp .ge 30, 3) := by decide +kernel
theorem dX1_put_23 : decode cX1_put 23 = .ok (.iload 6, 2) := by decide +kernel
theorem dX1_put_25 : decode cX1_put 25 = .ok (.aload_n 0, 1) := by decide +kernel
theorem dX1_put_26 : decode cX1_put 26 = .ok (.getfield 30, 3) := by decide +kernel
theorem dX1_put_29 : decode cX1_put 29 = .ok (.arraylength, 1) := by decide +kernel
theorem dX1_put_30 : decode cX1_put 30 = .ok (.if_icmp .ge 20, 3) := by decide +kernel
theorem dX1_put_33 : decode cX1_put 33 = .ok (.aload_n 0, 1) := by decide +kernel
theorem dX1_put_34 : decode cX1_put 34 = .ok (.getfield 26, 3) := by decide +kernel
theorem dX1_put_37 : decode cX1_put 37 = .ok (.iload 6, 2) := by decide +kernel
theorem dX1_put_39 : decode cX1_put 39 = .ok (.lload_n 3, 1) := by decide +kernel
theorem dX1_put_40 : decode cX1_put 40 = .ok (.lastore, 1) := by decide +kernel
theorem dX1_put_41 : decode cX1_put 41 = .ok (.aload_n 0, 1) := by decide +kernel
theorem dX1_put_42 : decode cX1_put 42 = .ok (.getfield 30, 3) := by decide +kernel
theorem dX1_put_45 : decode cX1_put 45 = .ok (.iload 6, 2) := by decide +kernel
theorem dX1_put_47 : decode cX1_put 47 = .ok (.iload 5, 2) := by decide +kernel
theorem dX1_put_49 : decode cX1_put 49 = .ok (.iastore, 1) := by decide +kernel
theorem dX1_put_50 : decode cX1_put 50 = .ok (.return_, 1) := by decide +kernel
theorem dX2_init_0 : decode cX2_init 0 = .ok (.aload_n 0, 1) := by decide +kernel
theorem dX2_init_1 : decode cX2_init 1 = .ok (.invokespecial 3, 3) := by decide +kernel
theorem dX2_init_4 : decode cX2_init 4 = .ok (.iload_n 1, 1) := by decide +kernel
theorem dX2_init_5 : decode cX2_init 5 = .ok (.iconst 0, 1) := by decide +kernel
theorem dX2_init_6 : decode cX2_init 6 = .ok (.invokestatic 9, 3) := by decide +kernel
theorem dX2_init_9 : decode cX2_init 9 = .ok (.istore_n 2, 1) := by decide +kernel
theorem dX2_init_10 : decode cX2_init 10 = .ok (.aload_n 0, 1) := by decide +kernel
theorem dX2_init_11 : decode cX2_init 11 = .ok (.iload_n 2, 1) := by decide +kernel
theorem dX2_init_12 : decode cX2_init 12 = .ok (.newarray .int, 2) := by decide +kernel
theorem dX2_init_14 : decode cX2_init 14 = .ok (.putfield 15, 3) := by decide +kernel
theorem dX2_init_17 : decode cX2_init 17 = .ok (.aload_n 0, 1) := by decide +kernel
theorem dX2_init_18 : decode cX2_init 18 = .ok (.iload_n 2, 1) := by decide +kernel
theorem dX2_init_19 : decode cX2_init 19 = .ok (.newarray .int, 2) := by decide +kernel
theorem dX2_init_21 : decode cX2_init 21 = .ok (.putfield 21, 3) := by decide +kernel
theorem dX2_init_24 : decode cX2_init 24 = .ok (.aload_n 0, 1) := by decide +kernel
theorem dX2_init_25 : decode cX2_init 25 = .ok (.iload_n 2, 1) := by decide +kernel
theorem dX2_init_26 : decode cX2_init 26 = .ok (.newarray .int, 2) := by decide +kernel
theorem dX2_init_28 : decode cX2_init 28 = .ok (.putfield 24, 3) := by decide +kernel
theorem dX2_init_31 : decode cX2_init 31 = .ok (.aload_n 0, 1) := by decide +kernel
theorem dX2_init_32 : decode cX2_init 32 = .ok (.iload_n 2, 1) := by decide +kernel
theorem dX2_init_33 : decode cX2_init 33 = .ok (.newarray .int, 2) := by decide +kernel
theorem dX2_init_35 : decode cX2_init 35 = .ok (.putfield 27, 3) := by decide +kernel
theorem dX2_init_38 : decode cX2_init 38 = .ok (.return_, 1) := by decide +kernel
theorem dX2_length_0 : decode cX2_length 0 = .ok (.aload_n 0, 1) := by decide +kernel
theorem dX2_length_1 : decode cX2_length 1 = .ok (.getfield 15, 3) := by decide +kernel
theorem dX2_length_4 : decode cX2_length 4 = .ok (.arraylength, 1) := by decide +kernel
theorem dX2_length_5 : decode cX2_length 5 = .ok (.ireturn, 1) := by decide +kernel
theorem dX2_byteAt_0 : decode cX2_byteAt 0 = .ok (.iload_n 1, 1) := by decide +kernel
theorem dX2_byteAt_1 : decode cX2_byteAt 1 = .ok (.ifCond .lt 21, 3) := by decide +kernel
theorem dX2_byteAt_4 : decode cX2_byteAt 4 = .ok (.iload_n 1, 1) := by decide +kernel
theorem dX2_byteAt_5 : decode cX2_byteAt 5 = .ok (.aload_n 0, 1) := by decide +kernel
theorem dX2_byteAt_6 : decode cX2_byteAt 6 = .ok (.getfield 15, 3) := by decide +kernel
theorem dX2_byteAt_9 : decode cX2_byteAt 9 = .ok (.arraylength, 1) := by decide +kernel
theorem dX2_byteAt_10 : decode cX2_byteAt 10 = .ok (.if_icmp .ge 12, 3) := by decide +kernel
theorem dX2_byteAt_13 : decode cX2_byteAt 13 = .ok (.aload_n 0, 1) := by decide +kernel
theorem dX2_byteAt_14 : decode cX2_byteAt 14 = .ok (.getfield 15, 3) := by decide +kernel
theorem dX2_byteAt_17 : decode cX2_byteAt 17 = .ok (.iload_n 1, 1) := by decide +kernel
theorem dX2_byteAt_18 : decode cX2_byteAt 18 = .ok (.iaload, 1) := by decide +kernel
theorem dX2_byteAt_19 : decode cX2_byteAt 19 = .ok (.goto 4, 3) := by decide +kernel
theorem dX2_byteAt_22 : decode cX2_byteAt 22 = .ok (.iconst (-1), 1) := by decide +kernel
theorem dX2_byteAt_23 : decode cX2_byteAt 23 = .ok (.ireturn, 1) := by decide +kernel
theorem dX2_putByte_0 : decode cX2_putByte 0 = .ok (.iload_n 1, 1) := by decide +kernel
theorem dX2_putByte_1 : decode cX2_putByte 1 = .ok (.ifCond .lt 19, 3) := by decide +kernel
theorem dX2_putByte_4 : decode cX2_putByte 4 = .ok (.iload_n 1, 1) := by decide +kernel
theorem dX2_putByte_5 : decode cX2_putByte 5 = .ok (.aload_n 0, 1) := by decide +kernel
theorem dX2_putByte_6 : decode cX2_putByte 6 = .ok (.getfield 15, 3) := by decide +kernel
theorem dX2_putByte_9 : decode cX2_putByte 9 = .ok (.arraylength, 1) := by decide +kernel
theorem dX2_putByte_10 : decode cX2_putByte 10 = .ok (.if_icmp .ge 10, 3) := by decide +kernel
theorem dX2_putByte_13 : decode cX2_putByte 13 = .ok (.aload_n 0, 1) := by decide +kernel
theorem dX2_putByte_14 : decode cX2_putByte 14 = .ok (.getfield 15, 3) := by decide +kernel
theorem dX2_putByte_17 : decode cX2_putByte 17 = .ok (.iload_n 1, 1) := by decide +kernel
theorem dX2_putByte_18 : decode cX2_putByte 18 = .ok (.iload_n 2, 1) := by decide +kernel
theorem dX2_putByte_19 : decode cX2_putByte 19 = .ok (.iastore, 1) := by decide +kernel
theorem dX2_putByte_20 : decode cX2_putByte 20 = .ok (.return_, 1) := by decide +kernel
theorem dX2_hasTextOf_0 : decode cX2_hasTextOf 0 = .ok (.aload_n 1, 1) := by decide +kernel
theorem dX2_hasTextOf_1 : decode cX2_hasTextOf 1 = .ok (.ifnull 15, 3) := by decide +kernel
theorem dX2_hasTextOf_4 : decode cX2_hasTextOf 4 = .ok (.aload_n 1, 1) := by decide +kernel
theorem dX2_hasTextOf_5 : decode cX2_hasTextOf 5 = .ok (.invokevirtual 30, 3) := by decide +kernel
theorem dX2_hasTextOf_8 : decode cX2_hasTextOf 8 = .ok (.aload_n 0, 1) := by decide +kernel
theorem dX2_hasTextOf_9 : decode cX2_hasTextOf 9 = .ok (.getfield 15, 3) := by decide +kernel
theorem dX2_hasTextOf_12 : decode cX2_hasTextOf 12 = .ok (.arraylength, 1) := by decide +kernel
theorem dX2_hasTextOf_13 : decode cX2_hasTextOf 13 = .ok (.if_icmp .eq 5, 3) := by decide +kernel
theorem dX2_hasTextOf_16 : decode cX2_hasTextOf 16 = .ok (.iconst 0, 1) := by decide +kernel
theorem dX2_hasTextOf_17 : decode cX2_hasTextOf 17 = .ok (.ireturn, 1) := by decide +kernel
theorem dX2_hasTextOf_18 : decode cX2_hasTextOf 18 = .ok (.iconst 0, 1) := by decide +kernel
theorem dX2_hasTextOf_19 : decode cX2_hasTextOf 19 = .ok (.istore_n 2, 1) := by decide +kernel
theorem dX2_hasTextOf_20 : decode cX2_hasTextOf 20 = .ok (.iload_n 2, 1) := by decide +kernel
theorem dX2_hasTextOf_21 : decode cX2_hasTextOf 21 = .ok (.aload_n 0, 1) := by decide +kernel
theorem dX2_hasTextOf_22 : decode cX2_hasTextOf 22 = .ok (.getfield 15, 3) := by decide +kernel
theorem dX2_hasTextOf_25 : decode cX2_hasTextOf 25 = .ok (.arraylength, 1) := by decide +kernel
theorem dX2_hasTextOf_26 : decode cX2_hasTextOf 26 = .ok (.if_icmp .ge 25, 3) := by decide +kernel
theorem dX2_hasTextOf_29 : decode cX2_hasTextOf 29 = .ok (.aload_n 0, 1) := by decide +kernel
theorem dX2_hasTextOf_30 : decode cX2_hasTextOf 30 = .ok (.getfield 15, 3) := by decide +kernel
theorem dX2_hasTextOf_33 : decode cX2_hasTextOf 33 = .ok (.iload_n 2, 1) := by decide +kernel
theorem dX2_hasTextOf_34 : decode cX2_hasTextOf 34 = .ok (.iaload, 1) := by decide +kernel
theorem dX2_hasTextOf_35 : decode cX2_hasTextOf 35 = .ok (.aload_n 1, 1) := by decide +kernel
theorem dX2_hasTextOf_36 : decode cX2_hasTextOf 36 = .ok (.iload_n 2, 1) := by decide +kernel
theorem dX2_hasTextOf_37 : decode cX2_hasTextOf 37 = .ok (.invokevirtual 34, 3) := by decide +kernel
theorem dX2_hasTextOf_40 : decode cX2_hasTextOf 40 = .ok (.if_icmp .eq 5, 3) := by decide +kernel
theorem dX2_hasTextOf_43 : decode cX2_hasTextOf 43 = .ok (.iconst 0, 1) := by decide +kernel
theorem dX2_hasTextOf_44 : decode cX2_hasTextOf 44 = .ok (.ireturn, 1) := by decide +kernel
theorem dX2_hasTextOf_45 : decode cX2_hasTextOf 45 = .ok (.iinc 2 1, 3) := by decide +kernel
theorem dX2_hasTextOf_48 : decode cX2_hasTextOf 48 = .ok (.goto (-28), 3) := by decide +kernel
theorem dX2_hasTextOf_51 : decode cX2_hasTextOf 51 = .ok (.iconst 1, 1) := by decide +kernel
theorem dX2_hasTextOf_52 : decode cX2_hasTextOf 52 = .ok (.ireturn, 1) := by decide +kernel
theorem dX2_addStep_0 : decode cX2_addStep 0 = .ok (.iload_n 1, 1) := by decide +kernel
theorem dX2_addStep_1 : decode cX2_addStep 1 = .ok (.ifCond .lt 74, 3) := by decide +kernel
theorem dX2_addStep_4 : decode cX2_addStep 4 = .ok (.iload_n 1, 1) := by decide +kernel
theorem dX2_addStep_5 : decode cX2_addStep 5 = .ok (.aload_n 0, 1) := by decide +kernel
theorem dX2_addStep_6 : decode cX2_addStep 6 = .ok (.getfield 21, 3) := by decide +kernel
theorem dX2_addStep_9 : decode cX2_addStep 9 = .ok (.arraylength, 1) := by decide +kernel
theorem dX2_addStep_10 : decode cX2_addStep 10 = .ok (.if_icmp .ge 65, 3) := by decide +kernel
theorem dX2_addStep_13 : decode cX2_addStep 13 = .ok (.iload_n 1, 1) := by decide +kernel
theorem dX2_addStep_14 : decode cX2_addStep 14 = .ok (.aload_n 0, 1) := by decide +kernel
theorem dX2_addStep_15 : decode cX2_addStep 15 = .ok (.getfield 24, 3) := by decide +kernel
theorem dX2_addStep_18 : decode cX2_addStep 18 = .ok (.arraylength, 1) := by decide +kernel
theorem dX2_addStep_19 : decode cX2_addStep 19 = .ok (.if_icmp .ge 56, 3) := by decide +kernel
theorem dX2_addStep_22 : decode cX2_addStep 22 = .ok (.aload_n 0, 1) := by decide +kernel
theorem dX2_addStep_23 : decode cX2_addStep 23 = .ok (.getfield 38, 3) := by decide +kernel
theorem dX2_addStep_26 : decode cX2_addStep 26 = .ok (.ifCond .lt 49, 3) := by decide +kernel
theorem dX2_addStep_29 : decode cX2_addStep 29 = .ok (.aload_n 0, 1) := by decide +kernel
theorem dX2_addStep_30 : decode cX2_addStep 30 = .ok (.getfield 38, 3) := by decide +kernel
theorem dX2_addStep_33 : decode cX2_addStep 33 = .ok (.aload_n 0, 1) := by decide +kernel
theorem dX2_addStep_34 : decode cX2_addStep 34 = .ok (.getfield 27, 3) := by decide +kernel
theorem dX2_addStep_37 : decode cX2_addStep 37 = .ok (.arraylength, 1) := by decide +kernel
theorem dX2_addStep_38 : decode cX2_addStep 38 = .ok (.if_icmp .ge 37, 3) := by decide +kernel
theorem dX2_addStep_41 : decode cX2_addStep 41 = .ok (.aload_n 0, 1) := by decide +kernel
theorem dX2_addStep_42 : decode cX2_addStep 42 = .ok (.getfield 21, 3) := by decide +kernel
theorem dX2_addStep_45 : decode cX2_addStep 45 = .ok (.iload_n 1, 1) := by decide +kernel
theorem dX2_addStep_46 : decode cX2_addStep 46 = .ok (.iload_n 2, 1) := by decide +kernel
theorem dX2_addStep_47 : decode cX2_addStep 47 = .ok (.iastore, 1) := by decide +kernel
theorem dX2_addStep_48 : decode cX2_addStep 48 = .ok (.aload_n 0, 1) := by decide +kernel
theorem dX2_addStep_49 : decode cX2_addStep 49 = .ok (.getfield 24, 3) := by decide +kernel
theorem dX2_addStep_52 : decode cX2_addStep 52 = .ok (.iload_n 1, 1) := by decide +kernel
theorem dX2_addStep_53 : decode cX2_addStep 53 = .ok (.iload_n 3, 1) := by decide +kernel
theorem dX2_addStep_54 : decode cX2_addStep 54 = .ok (.iastore, 1) := by decide +kernel
theorem dX2_addStep_55 : decode cX2_addStep 55 = .ok (.aload_n 0, 1) := by decide +kernel
theorem dX2_addStep_56 : decode cX2_addStep 56 = .ok (.getfield 27, 3) := by decide +kernel
theorem dX2_addStep_59 : decode cX2_addStep 59 = .ok (.aload_n 0, 1) := by decide +kernel
theorem dX2_addStep_60 : decode cX2_addStep 60 = .ok (.getfield 38, 3) := by decide +kernel
theorem dX2_addStep_63 : decode cX2_addStep 63 = .ok (.iload_n 1, 1) := by decide +kernel
theorem dX2_addStep_64 : decode cX2_addStep 64 = .ok (.iastore, 1) := by decide +kernel
theorem dX2_addStep_65 : decode cX2_addStep 65 = .ok (.aload_n 0, 1) := by decide +kernel
theorem dX2_addStep_66 : decode cX2_addStep 66 = .ok (.dup, 1) := by decide +kernel
theorem dX2_addStep_67 : decode cX2_addStep 67 = .ok (.getfield 38, 3) := by decide +kernel
theorem dX2_addStep_70 : decode cX2_addStep 70 = .ok (.iconst 1, 1) := by decide +kernel
theorem dX2_addStep_71 : decode cX2_addStep 71 = .ok (.iadd, 1) := by decide +kernel
theorem dX2_addStep_72 : decode cX2_addStep 72 = .ok (.putfield 38, 3) := by decide +kernel
theorem dX2_addStep_75 : decode cX2_addStep 75 = .ok (.return_, 1) := by decide +kernel
theorem dX2_countSteps_0 : decode cX2_countSteps 0 = .ok (.aload_n 0, 1) := by decide +kernel
theorem dX2_countSteps_1 : decode cX2_countSteps 1 = .ok (.getfield 38, 3) := by decide +kernel
theorem dX2_countSteps_4 : decode cX2_countSteps 4 = .ok (.ireturn, 1) := by decide +kernel
theorem dX2_placeOf_0 : decode cX2_placeOf 0 = .ok (.iload_n 1, 1) := by decide +kernel
theorem dX2_placeOf_1 : decode cX2_placeOf 1 = .ok (.ifCond .lt 29, 3) := by decide +kernel
theorem dX2_placeOf_4 : decode cX2_placeOf 4 = .ok (.iload_n 1, 1) := by decide +kernel
theorem dX2_placeOf_5 : decode cX2_placeOf 5 = .ok (.aload_n 0, 1) := by decide +kernel
theorem dX2_placeOf_6 : decode cX2_placeOf 6 = .ok (.getfield 38, 3) := by decide +kernel
theorem dX2_placeOf_9 : decode cX2_placeOf 9 = .ok (.if_icmp .ge 21, 3) := by decide +kernel
theorem dX2_placeOf_12 : decode cX2_placeOf 12 = .ok (.iload_n 1, 1) := by decide +kernel
theorem dX2_placeOf_13 : decode cX2_placeOf 13 = .ok (.aload_n 0, 1) := by decide +kernel
theorem dX2_placeOf_14 : decode cX2_placeOf 14 = .ok (.getfield 27, 3) := by decide +kernel
theorem dX2_placeOf_17 : decode cX2_placeOf 17 = .ok (.arraylength, 1) := by decide +kernel
theorem dX2_placeOf_18 : decode cX2_placeOf 18 = .ok (.if_icmp .ge 12, 3) := by decide +kernel
theorem dX2_placeOf_21 : decode cX2_placeOf 21 = .ok (.aload_n 0, 1) := by decide +kernel
theorem dX2_placeOf_22 : decode cX2_placeOf 22 = .ok (.getfield 27, 3) := by decide +kernel
theorem dX2_placeOf_25 : decode cX2_placeOf 25 = .ok (.iload_n 1, 1) := by decide +kernel
theorem dX2_placeOf_26 : decode cX2_placeOf 26 = .ok (.iaload, 1) := by decide +kernel
theorem dX2_placeOf_27 : decode cX2_placeOf 27 = .ok (.goto 4, 3) := by decide +kernel
theorem dX2_placeOf_30 : decode cX2_placeOf 30 = .ok (.iconst (-1), 1) := by decide +kernel
theorem dX2_placeOf_31 : decode cX2_placeOf 31 = .ok (.ireturn, 1) := by decide +kernel
theorem dX2_stepAt_0 : decode cX2_stepAt 0 = .ok (.iload_n 1, 1) := by decide +kernel
theorem dX2_stepAt_1 : decode cX2_stepAt 1 = .ok (.ifCond .lt 21, 3) := by decide +kernel
theorem dX2_stepAt_4 : decode cX2_stepAt 4 = .ok (.iload_n 1, 1) := by decide +kernel
theorem dX2_stepAt_5 : decode cX2_stepAt 5 = .ok (.aload_n 0, 1) := by decide +kernel
theorem dX2_stepAt_6 : decode cX2_stepAt 6 = .ok (.getfield 21, 3) := by decide +kernel
theorem dX2_stepAt_9 : decode cX2_stepAt 9 = .ok (.arraylength, 1) := by decide +kernel
theorem dX2_stepAt_10 : decode cX2_stepAt 10 = .ok (.if_icmp .ge 12, 3) := by decide +kernel
theorem dX2_stepAt_13 : decode cX2_stepAt 13 = .ok (.aload_n 0, 1) := by decide +kernel
theorem dX2_stepAt_14 : decode cX2_stepAt 14 = .ok (.getfield 21, 3) := by decide +kernel
theorem dX2_stepAt_17 : decode cX2_stepAt 17 = .ok (.iload_n 1, 1) := by decide +kernel
theorem dX2_stepAt_18 : decode cX2_stepAt 18 = .ok (.iaload, 1) := by decide +kernel
theorem dX2_stepAt_19 : decode cX2_stepAt 19 = .ok (.goto 4, 3) := by decide +kernel
theorem dX2_stepAt_22 : decode cX2_stepAt 22 = .ok (.iconst 0, 1) := by decide +kernel
theorem dX2_stepAt_23 : decode cX2_stepAt 23 = .ok (.ireturn, 1) := by decide +kernel
theorem dX2_operandAt_0 : decode cX2_operandAt 0 = .ok (.iload_n 1, 1) := by decide +kernel
theorem dX2_operandAt_1 : decode cX2_operandAt 1 = .ok (.ifCond .lt 21, 3) := by decide +kernel
theorem dX2_operandAt_4 : decode cX2_operandAt 4 = .ok (.iload_n 1, 1) := by decide +kernel
theorem dX2_operandAt_5 : decode cX2_operandAt 5 = .ok (.aload_n 0, 1) := by decide +kernel
theorem dX2_operandAt_6 : decode cX2_operandAt 6 = .ok (.getfield 24, 3) := by decide +kernel
theorem dX2_operandAt_9 : decode cX2_operandAt 9 = .ok (.arraylength, 1) := by decide +kernel
theorem dX2_operandAt_10 : decode cX2_operandAt 10 = .ok (.if_icmp .ge 12, 3) := by decide +kernel
theorem dX2_operandAt_13 : decode cX2_operandAt 13 = .ok (.aload_n 0, 1) := by decide +kernel
theorem dX2_operandAt_14 : decode cX2_operandAt 14 = .ok (.getfield 24, 3) := by decide +kernel
theorem dX2_operandAt_17 : decode cX2_operandAt 17 = .ok (.iload_n 1, 1) := by decide +kernel
theorem dX2_operandAt_18 : decode cX2_operandAt 18 = .ok (.iaload, 1) := by decide +kernel
theorem dX2_operandAt_19 : decode cX2_operandAt 19 = .ok (.goto 4, 3) := by decide +kernel
theorem dX2_operandAt_22 : decode cX2_operandAt 22 = .ok (.iconst 0, 1) := by decide +kernel
theorem dX2_operandAt_23 : decode cX2_operandAt 23 = .ok (.ireturn, 1) := by decide +kernel
theorem dX2_needs_0 : decode cX2_needs 0 = .ok (.lconst 0, 1) := by decide +kernel
theorem dX2_needs_1 : decode cX2_needs 1 = .ok (.lstore_n 2, 1) := by decide +kernel
theorem dX2_needs_2 : decode cX2_needs 2 = .ok (.iconst 0, 1) := by decide +kernel
theorem dX2_needs_3 : decode cX2_needs 3 = .ok (.istore 4, 2) := by decide +kernel
theorem dX2_needs_5 : decode cX2_needs 5 = .ok (.iconst 0, 1) := by decide +kernel
theorem dX2_needs_6 : decode cX2_needs 6 = .ok (.istore 5, 2) := by decide +kernel
theorem dX2_needs_8 : decode cX2_needs 8 = .ok (.iconst 0, 1) := by decide +kernel
theorem dX2_needs_9 : decode cX2_needs 9 = .ok (.istore 6, 2) := by decide +kernel
theorem dX2_needs_11 : decode cX2_needs 11 = .ok (.iload 6, 2) := by decide +kernel
theorem dX2_needs_13 : decode cX2_needs 13 = .ok (.aload_n 0, 1) := by decide +kernel
theorem dX2_needs_14 : decode cX2_needs 14 = .ok (.getfield 38, 3) := by decide +kernel
theorem dX2_needs_17 : decode cX2_needs 17 = .ok (.if_icmp .ge 98, 3) := by decide +kernel
theorem dX2_needs_20 : decode cX2_needs 20 = .ok (.aload_n 0, 1) := by decide +kernel
theorem dX2_needs_21 : decode cX2_needs 21 = .ok (.iload 6, 2) := by decide +kernel
theorem dX2_needs_23 : decode cX2_needs 23 = .ok (.invokevirtual 42, 3) := by decide +kernel
theorem dX2_needs_26 : decode cX2_needs 26 = .ok (.istore 7, 2) := by decide +kernel
theorem dX2_needs_28 : decode cX2_needs 28 = .ok (.aload_n 0, 1) := by decide +kernel
theorem dX2_needs_29 : decode cX2_needs 29 = .ok (.iload 7, 2) := by decide +kernel
theorem dX2_needs_31 : decode cX2_needs 31 = .ok (.invokevirtual 45, 3) := by decide +kernel
theorem dX2_needs_34 : decode cX2_needs 34 = .ok (.tableswitch 75 2 5 #[30, 46, 75, 62], 30) := by decide +kernel
theorem dX2_needs_64 : decode cX2_needs 64 = .ok (.lload_n 2, 1) := by decide +kernel
theorem dX2_needs_65 : decode cX2_needs 65 = .ok (.aload_n 1, 1) := by decide +kernel
theorem dX2_needs_66 : decode cX2_needs 66 = .ok (.aload_n 0, 1) := by decide +kernel
theorem dX2_needs_67 : decode cX2_needs 67 = .ok (.iload 7, 2) := by decide +kernel
theorem dX2_needs_69 : decode cX2_needs 69 = .ok (.invokevirtual 48, 3) := by decide +kernel
theorem dX2_needs_72 : decode cX2_needs 72 = .ok (.invokestatic 54, 3) := by decide +kernel
theorem dX2_needs_75 : decode cX2_needs 75 = .ok (.lor, 1) := by decide +kernel
theorem dX2_needs_76 : decode cX2_needs 76 = .ok (.lstore_n 2, 1) := by decide +kernel
theorem dX2_needs_77 : decode cX2_needs 77 = .ok (.goto 32, 3) := by decide +kernel
theorem dX2_needs_80 : decode cX2_needs 80 = .ok (.iload 5, 2) := by decide +kernel
theorem dX2_needs_82 : decode cX2_needs 82 = .ok (.istore 4, 2) := by decide +kernel
theorem dX2_needs_84 : decode cX2_needs 84 = .ok (.aload_n 1, 1) := by decide +kernel
theorem dX2_needs_85 : decode cX2_needs 85 = .ok (.aload_n 0, 1) := by decide +kernel
theorem dX2_needs_86 : decode cX2_needs 86 = .ok (.iload 7, 2) := by decide +kernel
theorem dX2_needs_88 : decode cX2_needs 88 = .ok (.invokevirtual 48, 3) := by decide +kernel
theorem dX2_needs_91 : decode cX2_needs 91 = .ok (.istore 5, 2) := by decide +kernel
theorem dX2_needs_93 : decode cX2_needs 93 = .ok (.goto 16, 3) := by decide +kernel
theorem dX2_needs_96 : decode cX2_needs 96 = .ok (.lload_n 2, 1) := by decide +kernel
theorem dX2_needs_97 : decode cX2_needs 97 = .ok (.iload 4, 2) := by decide +kernel
theorem dX2_needs_99 : decode cX2_needs 99 = .ok (.iload 5, 2) := by decide +kernel
theorem dX2_needs_101 : decode cX2_needs 101 = .ok (.invokestatic 58, 3) := by decide +kernel
theorem dX2_needs_104 : decode cX2_needs 104 = .ok (.lor, 1) := by decide +kernel
theorem dX2_needs_105 : decode cX2_needs 105 = .ok (.lstore_n 2, 1) := by decide +kernel
theorem dX2_needs_106 : decode cX2_needs 106 = .ok (.goto 3, 3) := by decide +kernel
theorem dX2_needs_109 : decode cX2_needs 109 = .ok (.iinc 6 1, 3) := by decide +kernel
theorem dX2_needs_112 : decode cX2_needs 112 = .ok (.goto (-101), 3) := by decide +kernel
theorem dX2_needs_115 : decode cX2_needs 115 = .ok (.lload_n 2, 1) := by decide +kernel
theorem dX2_needs_116 : decode cX2_needs 116 = .ok (.lreturn, 1) := by decide +kernel
theorem dX3_init_0 : decode cX3_init 0 = .ok (.aload_n 0, 1) := by decide +kernel
theorem dX3_init_1 : decode cX3_init 1 = .ok (.invokespecial 3, 3) := by decide +kernel
theorem dX3_init_4 : decode cX3_init 4 = .ok (.aload_n 0, 1) := by decide +kernel
theorem dX3_init_5 : decode cX3_init 5 = .ok (.aload_n 1, 1) := by decide +kernel
theorem dX3_init_6 : decode cX3_init 6 = .ok (.putfield 9, 3) := by decide +kernel
theorem dX3_init_9 : decode cX3_init 9 = .ok (.aload_n 0, 1) := by decide +kernel
theorem dX3_init_10 : decode cX3_init 10 = .ok (.aload_n 2, 1) := by decide +kernel
theorem dX3_init_11 : decode cX3_init 11 = .ok (.putfield 15, 3) := by decide +kernel
theorem dX3_init_14 : decode cX3_init 14 = .ok (.aload_n 0, 1) := by decide +kernel
theorem dX3_init_15 : decode cX3_init 15 = .ok (.aload_n 3, 1) := by decide +kernel
theorem dX3_init_16 : decode cX3_init 16 = .ok (.putfield 19, 3) := by decide +kernel
theorem dX3_init_19 : decode cX3_init 19 = .ok (.aload_n 0, 1) := by decide +kernel
theorem dX3_init_20 : decode cX3_init 20 = .ok (.aload 4, 2) := by decide +kernel
theorem dX3_init_22 : decode cX3_init 22 = .ok (.putfield 23, 3) := by decide +kernel
theorem dX3_init_25 : decode cX3_init 25 = .ok (.aload_n 0, 1) := by decide +kernel
theorem dX3_init_26 : decode cX3_init 26 = .ok (.aload 5, 2) := by decide +kernel
theorem dX3_init_28 : decode cX3_init 28 = .ok (.putfield 26, 3) := by decide +kernel
theorem dX3_init_31 : decode cX3_init 31 = .ok (.aload_n 0, 1) := by decide +kernel
theorem dX3_init_32 : decode cX3_init 32 = .ok (.new 29, 3) := by decide +kernel
theorem dX3_init_35 : decode cX3_init 35 = .ok (.dup, 1) := by decide +kernel
theorem dX3_init_36 : decode cX3_init 36 = .ok (.invokespecial 31, 3) := by decide +kernel
theorem dX3_init_39 : decode cX3_init 39 = .ok (.putfield 32, 3) := by decide +kernel
theorem dX3_init_42 : decode cX3_init 42 = .ok (.return_, 1) := by decide +kernel
theorem dX3_slipPlace_0 : decode cX3_slipPlace 0 = .ok (.aload_n 0, 1) := by decide +kernel
theorem dX3_slipPlace_1 : decode cX3_slipPlace 1 = .ok (.getfield 36, 3) := by decide +kernel
theorem dX3_slipPlace_4 : decode cX3_slipPlace 4 = .ok (.ireturn, 1) := by decide +kernel
theorem dX3_slipMade_0 : decode cX3_slipMade 0 = .ok (.aload_n 0, 1) := by decide +kernel
theorem dX3_slipMade_1 : decode cX3_slipMade 1 = .ok (.getfield 40, 3) := by decide +kernel
theorem dX3_slipMade_4 : decode cX3_slipMade 4 = .ok (.ireturn, 1) := by decide +kernel
theorem dX3_open_0 : decode cX3_open 0 = .ok (.aload_n 1, 1) := by decide +kernel
theorem dX3_open_1 : decode cX3_open 1 = .ok (.ifnull 23, 3) := by decide +kernel
theorem dX3_open_4 : decode cX3_open 4 = .ok (.aload_n 2, 1) := by decide +kernel
theorem dX3_open_5 : decode cX3_open 5 = .ok (.ifnull 19, 3) := by decide +kernel
theorem dX3_open_8 : decode cX3_open 8 = .ok (.aload_n 0, 1) := by decide +kernel
theorem dX3_open_9 : decode cX3_open 9 = .ok (.getfield 19, 3) := by decide +kernel
theorem dX3_open_12 : decode cX3_open 12 = .ok (.aload_n 1, 1) := by decide +kernel
theorem dX3_open_13 : decode cX3_open 13 = .ok (.invokevirtual 43, 3) := by decide +kernel
theorem dX3_open_16 : decode cX3_open 16 = .ok (.aload_n 0, 1) := by decide +kernel
theorem dX3_open_17 : decode cX3_open 17 = .ok (.getfield 23, 3) := by decide +kernel
theorem dX3_open_20 : decode cX3_open 20 = .ok (.aload_n 2, 1) := by decide +kernel
theorem dX3_open_21 : decode cX3_open 21 = .ok (.invokevirtual 43, 3) := by decide +kernel
theorem dX3_open_24 : decode cX3_open 24 = .ok (.return_, 1) := by decide +kernel
theorem dX3_judge_0 : decode cX3_judge 0 = .ok (.aload_n 1, 1) := by decide +kernel
theorem dX3_judge_1 : decode cX3_judge 1 = .ok (.iload_n 2, 1) := by decide +kernel
theorem dX3_judge_2 : decode cX3_judge 2 = .ok (.invokevirtual 49, 3) := by decide +kernel
theorem dX3_judge_5 : decode cX3_judge 5 = .ok (.astore_n 3, 1) := by decide +kernel
theorem dX3_judge_6 : decode cX3_judge 6 = .ok (.aload_n 3, 1) := by decide +kernel
theorem dX3_judge_7 : decode cX3_judge 7 = .ok (.ifnonnull 10, 3) := by decide +kernel
theorem dX3_judge_10 : decode cX3_judge 10 = .ok (.aload_n 0, 1) := by decide +kernel
theorem dX3_judge_11 : decode cX3_judge 11 = .ok (.aload_n 1, 1) := by decide +kernel
theorem dX3_judge_12 : decode cX3_judge 12 = .ok (.iload_n 2, 1) := by decide +kernel
theorem dX3_judge_13 : decode cX3_judge 13 = .ok (.invokevirtual 55, 3) := by decide +kernel
theorem dX3_judge_16 : decode cX3_judge 16 = .ok (.ireturn, 1) := by decide +kernel
theorem dX3_judge_17 : decode cX3_judge 17 = .ok (.aload_n 0, 1) := by decide +kernel
theorem dX3_judge_18 : decode cX3_judge 18 = .ok (.aload_n 0, 1) := by decide +kernel
theorem dX3_judge_19 : decode cX3_judge 19 = .ok (.getfield 23, 3) := by decide +kernel
theorem dX3_judge_22 : decode cX3_judge 22 = .ok (.iload_n 2, 1) := by decide +kernel
theorem dX3_judge_23 : decode cX3_judge 23 = .ok (.invokevirtual 59, 3) := by decide +kernel
theorem dX3_judge_26 : decode cX3_judge 26 = .ok (.ifCond .eq 5, 3) := by decide +kernel
theorem dX3_judge_29 : decode cX3_judge 29 = .ok (.iconst 1, 1) := by decide +kernel
theorem dX3_judge_30 : decode cX3_judge 30 = .ok (.ireturn, 1) := by decide +kernel
theorem dX3_judge_31 : decode cX3_judge 31 = .ok (.aload_n 0, 1) := by decide +kernel
theorem dX3_judge_32 : decode cX3_judge 32 = .ok (.getfield 26, 3) := by decide +kernel
theorem dX3_judge_35 : decode cX3_judge 35 = .ok (.aload_n 1, 1) := by decide +kernel
theorem dX3_judge_36 : decode cX3_judge 36 = .ok (.iload_n 2, 1) := by decide +kernel
theorem dX3_judge_37 : decode cX3_judge 37 = .ok (.aload_n 0, 1) := by decide +kernel
theorem dX3_judge_38 : decode cX3_judge 38 = .ok (.getfield 19, 3) := by decide +kernel
theorem dX3_judge_41 : decode cX3_judge 41 = .ok (.invokevirtual 63, 3) := by decide +kernel
theorem dX3_judge_44 : decode cX3_judge 44 = .ok (.aload_n 0, 1) := by decide +kernel
theorem dX3_judge_45 : decode cX3_judge 45 = .ok (.aload_n 0, 1) := by decide +kernel
theorem dX3_judge_46 : decode cX3_judge 46 = .ok (.getfield 26, 3) := by decide +kernel
theorem dX3_judge_49 : decode cX3_judge 49 = .ok (.iload_n 2, 1) := by decide +kernel
theorem dX3_judge_50 : decode cX3_judge 50 = .ok (.invokevirtual 59, 3) := by decide +kernel
theorem dX3_judge_53 : decode cX3_judge 53 = .ok (.ifCond .eq 5, 3) := by decide +kernel
theorem dX3_judge_56 : decode cX3_judge 56 = .ok (.iconst 3, 1) := by decide +kernel
theorem dX3_judge_57 : decode cX3_judge 57 = .ok (.ireturn, 1) := by decide +kernel
theorem dX3_judge_58 : decode cX3_judge 58 = .ok (.aload_n 0, 1) := by decide +kernel
theorem dX3_judge_59 : decode cX3_judge 59 = .ok (.aload_n 3, 1) := by decide +kernel
theorem dX3_judge_60 : decode cX3_judge 60 = .ok (.iload_n 2, 1) := by decide +kernel
theorem dX3_judge_61 : decode cX3_judge 61 = .ok (.invokevirtual 67, 3) := by decide +kernel
theorem dX3_judge_64 : decode cX3_judge 64 = .ok (.ifCond .eq 7, 3) := by decide +kernel
theorem dX3_judge_67 : decode cX3_judge 67 = .ok (.iconst 4, 1) := by decide +kernel
theorem dX3_judge_68 : decode cX3_judge 68 = .ok (.goto 4, 3) := by decide +kernel
theorem dX3_judge_71 : decode cX3_judge 71 = .ok (.iconst 5, 1) := by decide +kernel
theorem dX3_judge_72 : decode cX3_judge 72 = .ok (.ireturn, 1) := by decide +kernel
theorem dX3_judgeNumber_0 : decode cX3_judgeNumber 0 = .ok (.aload_n 1, 1) := by decide +kernel
theorem dX3_judgeNumber_1 : decode cX3_judgeNumber 1 = .ok (.iload_n 2, 1) := by decide +kernel
theorem dX3_judgeNumber_2 : decode cX3_judgeNumber 2 = .ok (.invokevirtual 71, 3) := by decide +kernel
theorem dX3_judgeNumber_5 : decode cX3_judgeNumber 5 = .ok (.ifCond .ne 5, 3) := by decide +kernel
theorem dX3_judgeNumber_8 : decode cX3_judgeNumber 8 = .ok (.iconst 0, 1) := by decide +kernel
theorem dX3_judgeNumber_9 : decode cX3_judgeNumber 9 = .ok (.ireturn, 1) := by decide +kernel
theorem dX3_judgeNumber_10 : decode cX3_judgeNumber 10 = .ok (.iconst 0, 1) := by decide +kernel
theorem dX3_judgeNumber_11 : decode cX3_judgeNumber 11 = .ok (.istore_n 3, 1) := by decide +kernel
theorem dX3_judgeNumber_12 : decode cX3_judgeNumber 12 = .ok (.iload_n 3, 1) := by decide +kernel
theorem dX3_judgeNumber_13 : decode cX3_judgeNumber 13 = .ok (.bipush 6, 2) := by decide +kernel
theorem dX3_judgeNumber_15 : decode cX3_judgeNumber 15 = .ok (.if_icmp .ge 38, 3) := by decide +kernel
theorem dX3_judgeNumber_18 : decode cX3_judgeNumber 18 = .ok (.aload_n 0, 1) := by decide +kernel
theorem dX3_judgeNumber_19 : decode cX3_judgeNumber 19 = .ok (.getfield 9, 3) := by decide +kernel
theorem dX3_judgeNumber_22 : decode cX3_judgeNumber 22 = .ok (.iload_n 3, 1) := by decide +kernel
theorem dX3_judgeNumber_23 : decode cX3_judgeNumber 23 = .ok (.invokevirtual 75, 3) := by decide +kernel
theorem dX3_judgeNumber_26 : decode cX3_judgeNumber 26 = .ok (.ifCond .eq 27, 3) := by decide +kernel
theorem dX3_judgeNumber_29 : decode cX3_judgeNumber 29 = .ok (.aload_n 0, 1) := by decide +kernel
theorem dX3_judgeNumber_30 : decode cX3_judgeNumber 30 = .ok (.getfield 23, 3) := by decide +kernel
theorem dX3_judgeNumber_33 : decode cX3_judgeNumber 33 = .ok (.aload_n 0, 1) := by decide +kernel
theorem dX3_judgeNumber_34 : decode cX3_judgeNumber 34 = .ok (.getfield 19, 3) := by decide +kernel
theorem dX3_judgeNumber_37 : decode cX3_judgeNumber 37 = .ok (.iload_n 3, 1) := by decide +kernel
theorem dX3_judgeNumber_38 : decode cX3_judgeNumber 38 = .ok (.iload_n 2, 1) := by decide +kernel
theorem dX3_judgeNumber_39 : decode cX3_judgeNumber 39 = .ok (.invokevirtual 81, 3) := by decide +kernel
theorem dX3_judgeNumber_42 : decode cX3_judgeNumber 42 = .ok (.ifCond .eq 5, 3) := by decide +kernel
theorem dX3_judgeNumber_45 : decode cX3_judgeNumber 45 = .ok (.iconst 2, 1) := by decide +kernel
theorem dX3_judgeNumber_46 : decode cX3_judgeNumber 46 = .ok (.ireturn, 1) := by decide +kernel
theorem dX3_judgeNumber_47 : decode cX3_judgeNumber 47 = .ok (.iinc 3 1, 3) := by decide +kernel
theorem dX3_judgeNumber_50 : decode cX3_judgeNumber 50 = .ok (.goto (-38), 3) := by decide +kernel
theorem dX3_judgeNumber_53 : decode cX3_judgeNumber 53 = .ok (.iconst 5, 1) := by decide +kernel
theorem dX3_judgeNumber_54 : decode cX3_judgeNumber 54 = .ok (.ireturn, 1) := by decide +kernel
theorem dX3_isAlike_0 : decode cX3_isAlike 0 = .ok (.iconst 0, 1) := by decide +kernel
theorem dX3_isAlike_1 : decode cX3_isAlike 1 = .ok (.istore_n 3, 1) := by decide +kernel
theorem dX3_isAlike_2 : decode cX3_isAlike 2 = .ok (.iload_n 3, 1) := by decide +kernel
theorem dX3_isAlike_3 : decode cX3_isAlike 3 = .ok (.bipush 6, 2) := by decide +kernel
theorem dX3_isAlike_5 : decode cX3_isAlike 5 = .ok (.if_icmp .ge 35, 3) := by decide +kernel
theorem dX3_isAlike_8 : decode cX3_isAlike 8 = .ok (.aload_n 0, 1) := by decide +kernel
theorem dX3_isAlike_9 : decode cX3_isAlike 9 = .ok (.getfield 9, 3) := by decide +kernel
theorem dX3_isAlike_12 : decode cX3_isAlike 12 = .ok (.iload_n 3, 1) := by decide +kernel
theorem dX3_isAlike_13 : decode cX3_isAlike 13 = .ok (.invokevirtual 75, 3) := by decide +kernel
theorem dX3_isAlike_16 : decode cX3_isAlike 16 = .ok (.ifCond .eq 24, 3) := by decide +kernel
theorem dX3_isAlike_19 : decode cX3_isAlike 19 = .ok (.aload_n 1, 1) := by decide +kernel
theorem dX3_isAlike_20 : decode cX3_isAlike 20 = .ok (.aload_n 0, 1) := by decide +kernel
theorem dX3_isAlike_21 : decode cX3_isAlike 21 = .ok (.getfield 19, 3) := by decide +kernel
theorem dX3_isAlike_24 : decode cX3_isAlike 24 = .ok (.iload_n 3, 1) := by decide +kernel
theorem dX3_isAlike_25 : decode cX3_isAlike 25 = .ok (.iload_n 2, 1) := by decide +kernel
theorem dX3_isAlike_26 : decode cX3_isAlike 26 = .ok (.invokevirtual 81, 3) := by decide +kernel
theorem dX3_isAlike_29 : decode cX3_isAlike 29 = .ok (.ifCond .ne 5, 3) := by decide +kernel
theorem dX3_isAlike_32 : decode cX3_isAlike 32 = .ok (.iconst 0, 1) := by decide +kernel
theorem dX3_isAlike_33 : decode cX3_isAlike 33 = .ok (.ireturn, 1) := by decide +kernel
theorem dX3_isAlike_34 : decode cX3_isAlike 34 = .ok (.iinc 3 1, 3) := by decide +kernel
theorem dX3_isAlike_37 : decode cX3_isAlike 37 = .ok (.goto (-35), 3) := by decide +kernel
theorem dX3_isAlike_40 : decode cX3_isAlike 40 = .ok (.iconst 1, 1) := by decide +kernel
theorem dX3_isAlike_41 : decode cX3_isAlike 41 = .ok (.ireturn, 1) := by decide +kernel
theorem dX3_findsSlip_0 : decode cX3_findsSlip 0 = .ok (.iconst 0, 1) := by decide +kernel
theorem dX3_findsSlip_1 : decode cX3_findsSlip 1 = .ok (.istore_n 3, 1) := by decide +kernel
theorem dX3_findsSlip_2 : decode cX3_findsSlip 2 = .ok (.iload_n 3, 1) := by decide +kernel
theorem dX3_findsSlip_3 : decode cX3_findsSlip 3 = .ok (.aload_n 1, 1) := by decide +kernel
theorem dX3_findsSlip_4 : decode cX3_findsSlip 4 = .ok (.invokevirtual 84, 3) := by decide +kernel
theorem dX3_findsSlip_7 : decode cX3_findsSlip 7 = .ok (.if_icmp .ge 81, 3) := by decide +kernel
theorem dX3_findsSlip_10 : decode cX3_findsSlip 10 = .ok (.aload_n 1, 1) := by decide +kernel
theorem dX3_findsSlip_11 : decode cX3_findsSlip 11 = .ok (.iload_n 3, 1) := by decide +kernel
theorem dX3_findsSlip_12 : decode cX3_findsSlip 12 = .ok (.invokevirtual 90, 3) := by decide +kernel
theorem dX3_findsSlip_15 : decode cX3_findsSlip 15 = .ok (.ifCond .ne 7, 3) := by decide +kernel
theorem dX3_findsSlip_18 : decode cX3_findsSlip 18 = .ok (.iconst 0, 1) := by decide +kernel
theorem dX3_findsSlip_19 : decode cX3_findsSlip 19 = .ok (.goto 4, 3) := by decide +kernel
theorem dX3_findsSlip_22 : decode cX3_findsSlip 22 = .ok (.iconst 4, 1) := by decide +kernel
theorem dX3_findsSlip_23 : decode cX3_findsSlip 23 = .ok (.istore 4, 2) := by decide +kernel
theorem dX3_findsSlip_25 : decode cX3_findsSlip 25 = .ok (.iconst 0, 1) := by decide +kernel
theorem dX3_findsSlip_26 : decode cX3_findsSlip 26 = .ok (.istore 5, 2) := by decide +kernel
theorem dX3_findsSlip_28 : decode cX3_findsSlip 28 = .ok (.iload 5, 2) := by decide +kernel
theorem dX3_findsSlip_30 : decode cX3_findsSlip 30 = .ok (.iload 4, 2) := by decide +kernel
theorem dX3_findsSlip_32 : decode cX3_findsSlip 32 = .ok (.if_icmp .ge 50, 3) := by decide +kernel
theorem dX3_findsSlip_35 : decode cX3_findsSlip 35 = .ok (.aload_n 1, 1) := by decide +kernel
theorem dX3_findsSlip_36 : decode cX3_findsSlip 36 = .ok (.iload_n 3, 1) := by decide +kernel
theorem dX3_findsSlip_37 : decode cX3_findsSlip 37 = .ok (.iload 5, 2) := by decide +kernel
theorem dX3_findsSlip_39 : decode cX3_findsSlip 39 = .ok (.invokestatic 93, 3) := by decide +kernel
theorem dX3_findsSlip_42 : decode cX3_findsSlip 42 = .ok (.istore 6, 2) := by decide +kernel
theorem dX3_findsSlip_44 : decode cX3_findsSlip 44 = .ok (.iload 6, 2) := by decide +kernel
theorem dX3_findsSlip_46 : decode cX3_findsSlip 46 = .ok (.bipush (-2), 2) := by decide +kernel
theorem dX3_findsSlip_48 : decode cX3_findsSlip 48 = .ok (.if_icmp .eq 28, 3) := by decide +kernel
theorem dX3_findsSlip_51 : decode cX3_findsSlip 51 = .ok (.aload_n 0, 1) := by decide +kernel
theorem dX3_findsSlip_52 : decode cX3_findsSlip 52 = .ok (.aload_n 1, 1) := by decide +kernel
theorem dX3_findsSlip_53 : decode cX3_findsSlip 53 = .ok (.iload_n 3, 1) := by decide +kernel
theorem dX3_findsSlip_54 : decode cX3_findsSlip 54 = .ok (.iload 6, 2) := by decide +kernel
theorem dX3_findsSlip_56 : decode cX3_findsSlip 56 = .ok (.iload_n 2, 1) := by decide +kernel
theorem dX3_findsSlip_57 : decode cX3_findsSlip 57 = .ok (.invokevirtual 97, 3) := by decide +kernel
theorem dX3_findsSlip_60 : decode cX3_findsSlip 60 = .ok (.ifCond .eq 16, 3) := by decide +kernel
theorem dX3_findsSlip_63 : decode cX3_findsSlip 63 = .ok (.aload_n 0, 1) := by decide +kernel
theorem dX3_findsSlip_64 : decode cX3_findsSlip 64 = .ok (.iload_n 3, 1) := by decide +kernel
theorem dX3_findsSlip_65 : decode cX3_findsSlip 65 = .ok (.putfield 36, 3) := by decide +kernel
theorem dX3_findsSlip_68 : decode cX3_findsSlip 68 = .ok (.aload_n 0, 1) := by decide +kernel
theorem dX3_findsSlip_69 : decode cX3_findsSlip 69 = .ok (.iload 6, 2) := by decide +kernel
theorem dX3_findsSlip_71 : decode cX3_findsSlip 71 = .ok (.putfield 40, 3) := by decide +kernel
theorem dX3_findsSlip_74 : decode cX3_findsSlip 74 = .ok (.iconst 1, 1) := by decide +kernel
theorem dX3_findsSlip_75 : decode cX3_findsSlip 75 = .ok (.ireturn, 1) := by decide +kernel
theorem dX3_findsSlip_76 : decode cX3_findsSlip 76 = .ok (.iinc 5 1, 3) := by decide +kernel
theorem dX3_findsSlip_79 : decode cX3_findsSlip 79 = .ok (.goto (-51), 3) := by decide +kernel
theorem dX3_findsSlip_82 : decode cX3_findsSlip 82 = .ok (.iinc 3 1, 3) := by decide +kernel
theorem dX3_findsSlip_85 : decode cX3_findsSlip 85 = .ok (.goto (-83), 3) := by decide +kernel
theorem dX3_findsSlip_88 : decode cX3_findsSlip 88 = .ok (.iconst 0, 1) := by decide +kernel
theorem dX3_findsSlip_89 : decode cX3_findsSlip 89 = .ok (.ireturn, 1) := by decide +kernel
theorem dX3_isSoChanged_0 : decode cX3_isSoChanged 0 = .ok (.aload_n 0, 1) := by decide +kernel
theorem dX3_isSoChanged_1 : decode cX3_isSoChanged 1 = .ok (.getfield 32, 3) := by decide +kernel
theorem dX3_isSoChanged_4 : decode cX3_isSoChanged 4 = .ok (.iload_n 2, 1) := by decide +kernel
theorem dX3_isSoChanged_5 : decode cX3_isSoChanged 5 = .ok (.iload_n 3, 1) := by decide +kernel
theorem dX3_isSoChanged_6 : decode cX3_isSoChanged 6 = .ok (.invokevirtual 101, 3) := by decide +kernel
theorem dX3_isSoChanged_9 : decode cX3_isSoChanged 9 = .ok (.aload_n 0, 1) := by decide +kernel
theorem dX3_isSoChanged_10 : decode cX3_isSoChanged 10 = .ok (.getfield 26, 3) := by decide +kernel
theorem dX3_isSoChanged_13 : decode cX3_isSoChanged 13 = .ok (.aload_n 1, 1) := by decide +kernel
theorem dX3_isSoChanged_14 : decode cX3_isSoChanged 14 = .ok (.aload_n 0, 1) := by decide +kernel
theorem dX3_isSoChanged_15 : decode cX3_isSoChanged 15 = .ok (.getfield 32, 3) := by decide +kernel
theorem dX3_isSoChanged_18 : decode cX3_isSoChanged 18 = .ok (.invokevirtual 105, 3) := by decide +kernel
theorem dX3_isSoChanged_21 : decode cX3_isSoChanged 21 = .ok (.invokevirtual 109, 3) := by decide +kernel
theorem dX3_isSoChanged_24 : decode cX3_isSoChanged 24 = .ok (.istore 5, 2) := by decide +kernel
theorem dX3_isSoChanged_26 : decode cX3_isSoChanged 26 = .ok (.iconst 0, 1) := by decide +kernel
theorem dX3_isSoChanged_27 : decode cX3_isSoChanged 27 = .ok (.istore 6, 2) := by decide +kernel
theorem dX3_isSoChanged_29 : decode cX3_isSoChanged 29 = .ok (.iload 6, 2) := by decide +kernel
theorem dX3_isSoChanged_31 : decode cX3_isSoChanged 31 = .ok (.bipush 6, 2) := by decide +kernel
theorem dX3_isSoChanged_33 : decode cX3_isSoChanged 33 = .ok (.if_icmp .ge 103, 3) := by decide +kernel
theorem dX3_isSoChanged_36 : decode cX3_isSoChanged 36 = .ok (.aload_n 0, 1) := by decide +kernel
theorem dX3_isSoChanged_37 : decode cX3_isSoChanged 37 = .ok (.getfield 9, 3) := by decide +kernel
theorem dX3_isSoChanged_40 : decode cX3_isSoChanged 40 = .ok (.iload 6, 2) := by decide +kernel
theorem dX3_isSoChanged_42 : decode cX3_isSoChanged 42 = .ok (.invokevirtual 75, 3) := by decide +kernel
theorem dX3_isSoChanged_45 : decode cX3_isSoChanged 45 = .ok (.ifCond .eq 91, 3) := by decide +kernel
theorem dX3_isSoChanged_48 : decode cX3_isSoChanged 48 = .ok (.iconst 1, 1) := by decide +kernel
theorem dX3_isSoChanged_49 : decode cX3_isSoChanged 49 = .ok (.istore 7, 2) := by decide +kernel
theorem dX3_isSoChanged_51 : decode cX3_isSoChanged 51 = .ok (.lconst 0, 1) := by decide +kernel
theorem dX3_isSoChanged_52 : decode cX3_isSoChanged 52 = .ok (.lstore 8, 2) := by decide +kernel
theorem dX3_isSoChanged_54 : decode cX3_isSoChanged 54 = .ok (.iload 5, 2) := by decide +kernel
theorem dX3_isSoChanged_56 : decode cX3_isSoChanged 56 = .ok (.ifCond .eq 39, 3) := by decide +kernel
theorem dX3_isSoChanged_59 : decode cX3_isSoChanged 59 = .ok (.aload_n 0, 1) := by decide +kernel
theorem dX3_isSoChanged_60 : decode cX3_isSoChanged 60 = .ok (.getfield 15, 3) := by decide +kernel
theorem dX3_isSoChanged_63 : decode cX3_isSoChanged 63 = .ok (.aload_n 1, 1) := by decide +kernel
theorem dX3_isSoChanged_64 : decode cX3_isSoChanged 64 = .ok (.aload_n 0, 1) := by decide +kernel
theorem dX3_isSoChanged_65 : decode cX3_isSoChanged 65 = .ok (.getfield 32, 3) := by decide +kernel
theorem dX3_isSoChanged_68 : decode cX3_isSoChanged 68 = .ok (.aload_n 0, 1) := by decide +kernel
theorem dX3_isSoChanged_69 : decode cX3_isSoChanged 69 = .ok (.getfield 26, 3) := by decide +kernel
theorem dX3_isSoChanged_72 : decode cX3_isSoChanged 72 = .ok (.iload 6, 2) := by decide +kernel
theorem dX3_isSoChanged_74 : decode cX3_isSoChanged 74 = .ok (.invokevirtual 113, 3) := by decide +kernel
theorem dX3_isSoChanged_77 : decode cX3_isSoChanged 77 = .ok (.aload_n 0, 1) := by decide +kernel
theorem dX3_isSoChanged_78 : decode cX3_isSoChanged 78 = .ok (.getfield 15, 3) := by decide +kernel
theorem dX3_isSoChanged_81 : decode cX3_isSoChanged 81 = .ok (.invokevirtual 119, 3) := by decide +kernel
theorem dX3_isSoChanged_84 : decode cX3_isSoChanged 84 = .ok (.istore 7, 2) := by decide +kernel
theorem dX3_isSoChanged_86 : decode cX3_isSoChanged 86 = .ok (.aload_n 0, 1) := by decide +kernel
theorem dX3_isSoChanged_87 : decode cX3_isSoChanged 87 = .ok (.getfield 15, 3) := by decide +kernel
theorem dX3_isSoChanged_90 : decode cX3_isSoChanged 90 = .ok (.invokevirtual 122, 3) := by decide +kernel
theorem dX3_isSoChanged_93 : decode cX3_isSoChanged 93 = .ok (.lstore 8, 2) := by decide +kernel
theorem dX3_isSoChanged_95 : decode cX3_isSoChanged 95 = .ok (.iload 7, 2) := by decide +kernel
theorem dX3_isSoChanged_97 : decode cX3_isSoChanged 97 = .ok (.aload_n 0, 1) := by decide +kernel
theorem dX3_isSoChanged_98 : decode cX3_isSoChanged 98 = .ok (.getfield 19, 3) := by decide +kernel
theorem dX3_isSoChanged_101 : decode cX3_isSoChanged 101 = .ok (.iload 6, 2) := by decide +kernel
theorem dX3_isSoChanged_103 : decode cX3_isSoChanged 103 = .ok (.iload 4, 2) := by decide +kernel
theorem dX3_isSoChanged_105 : decode cX3_isSoChanged 105 = .ok (.invokevirtual 126, 3) := by decide +kernel
theorem dX3_isSoChanged_108 : decode cX3_isSoChanged 108 = .ok (.if_icmp .ne 20, 3) := by decide +kernel
theorem dX3_isSoChanged_111 : decode cX3_isSoChanged 111 = .ok (.lload 8, 2) := by decide +kernel
theorem dX3_isSoChanged_113 : decode cX3_isSoChanged 113 = .ok (.aload_n 0, 1) := by decide +kernel
theorem dX3_isSoChanged_114 : decode cX3_isSoChanged 114 = .ok (.getfield 19, 3) := by decide +kernel
theorem dX3_isSoChanged_117 : decode cX3_isSoChanged 117 = .ok (.iload 6, 2) := by decide +kernel
theorem dX3_isSoChanged_119 : decode cX3_isSoChanged 119 = .ok (.iload 4, 2) := by decide +kernel
theorem dX3_isSoChanged_121 : decode cX3_isSoChanged 121 = .ok (.invokevirtual 130, 3) := by decide +kernel
theorem dX3_isSoChanged_124 : decode cX3_isSoChanged 124 = .ok (.lcmp, 1) := by decide +kernel
theorem dX3_isSoChanged_125 : decode cX3_isSoChanged 125 = .ok (.ifCond .eq 5, 3) := by decide +kernel
theorem dX3_isSoChanged_128 : decode cX3_isSoChanged 128 = .ok (.iconst 0, 1) := by decide +kernel
theorem dX3_isSoChanged_129 : decode cX3_isSoChanged 129 = .ok (.ireturn, 1) := by decide +kernel
theorem dX3_isSoChanged_130 : decode cX3_isSoChanged 130 = .ok (.iinc 6 1, 3) := by decide +kernel
theorem dX3_isSoChanged_133 : decode cX3_isSoChanged 133 = .ok (.goto (-104), 3) := by decide +kernel
theorem dX3_isSoChanged_136 : decode cX3_isSoChanged 136 = .ok (.iconst 1, 1) := by decide +kernel
theorem dX3_isSoChanged_137 : decode cX3_isSoChanged 137 = .ok (.ireturn, 1) := by decide +kernel
theorem dX3_option_0 : decode cX3_option 0 = .ok (.aload_n 0, 1) := by decide +kernel
theorem dX3_option_1 : decode cX3_option 1 = .ok (.iload_n 1, 1) := by decide +kernel
theorem dX3_option_2 : decode cX3_option 2 = .ok (.invokevirtual 90, 3) := by decide +kernel
theorem dX3_option_5 : decode cX3_option 5 = .ok (.istore_n 3, 1) := by decide +kernel
theorem dX3_option_6 : decode cX3_option 6 = .ok (.aload_n 0, 1) := by decide +kernel
theorem dX3_option_7 : decode cX3_option 7 = .ok (.iload_n 1, 1) := by decide +kernel
theorem dX3_option_8 : decode cX3_option 8 = .ok (.invokevirtual 134, 3) := by decide +kernel
theorem dX3_option_11 : decode cX3_option 11 = .ok (.istore 4, 2) := by decide +kernel
theorem dX3_option_13 : decode cX3_option 13 = .ok (.iload_n 3, 1) := by decide +kernel
theorem dX3_option_14 : decode cX3_option 14 = .ok (.invokestatic 137, 3) := by decide +kernel
theorem dX3_option_17 : decode cX3_option 17 = .ok (.ifCond .eq 35, 3) := by decide +kernel
theorem dX3_option_20 : decode cX3_option 20 = .ok (.iload_n 2, 1) := by decide +kernel
theorem dX3_option_21 : decode cX3_option 21 = .ok (.ifCond .lt 28, 3) := by decide +kernel
theorem dX3_option_24 : decode cX3_option 24 = .ok (.iload_n 2, 1) := by decide +kernel
theorem dX3_option_25 : decode cX3_option 25 = .ok (.getstatic 140, 3) := by decide +kernel
theorem dX3_option_28 : decode cX3_option 28 = .ok (.arraylength, 1) := by decide +kernel
theorem dX3_option_29 : decode cX3_option 29 = .ok (.if_icmp .ge 20, 3) := by decide +kernel
theorem dX3_option_32 : decode cX3_option 32 = .ok (.getstatic 140, 3) := by decide +kernel
theorem dX3_option_35 : decode cX3_option 35 = .ok (.iload_n 2, 1) := by decide +kernel
theorem dX3_option_36 : decode cX3_option 36 = .ok (.caload, 1) := by decide +kernel
theorem dX3_option_37 : decode cX3_option 37 = .ok (.iload_n 3, 1) := by decide +kernel
theorem dX3_option_38 : decode cX3_option 38 = .ok (.if_icmp .eq 11, 3) := by decide +kernel
theorem dX3_option_41 : decode cX3_option 41 = .ok (.getstatic 140, 3) := by decide +kernel
theorem dX3_option_44 : decode cX3_option 44 = .ok (.iload_n 2, 1) := by decide +kernel
theorem dX3_option_45 : decode cX3_option 45 = .ok (.caload, 1) := by decide +kernel
theorem dX3_option_46 : decode cX3_option 46 = .ok (.goto 5, 3) := by decide +kernel
theorem dX3_option_49 : decode cX3_option 49 = .ok (.bipush (-2), 2) := by decide +kernel
theorem dX3_option_51 : decode cX3_option 51 = .ok (.ireturn, 1) := by decide +kernel
theorem dX3_option_52 : decode cX3_option 52 = .ok (.iload_n 3, 1) := by decide +kernel
theorem dX3_option_53 : decode cX3_option 53 = .ok (.iconst 1, 1) := by decide +kernel
theorem dX3_option_54 : decode cX3_option 54 = .ok (.if_icmp .ne 29, 3) := by decide +kernel
theorem dX3_option_57 : decode cX3_option 57 = .ok (.iload_n 2, 1) := by decide +kernel
theorem dX3_option_58 : decode cX3_option 58 = .ok (.ifCond .ne 10, 3) := by decide +kernel
theorem dX3_option_61 : decode cX3_option 61 = .ok (.iload 4, 2) := by decide +kernel
theorem dX3_option_63 : decode cX3_option 63 = .ok (.iconst 1, 1) := by decide +kernel
theorem dX3_option_64 : decode cX3_option 64 = .ok (.iadd, 1) := by decide +kernel
theorem dX3_option_65 : decode cX3_option 65 = .ok (.goto 17, 3) := by decide +kernel
theorem dX3_option_68 : decode cX3_option 68 = .ok (.iload_n 2, 1) := by decide +kernel
theorem dX3_option_69 : decode cX3_option 69 = .ok (.iconst 1, 1) := by decide +kernel
theorem dX3_option_70 : decode cX3_option 70 = .ok (.if_icmp .ne 10, 3) := by decide +kernel
theorem dX3_option_73 : decode cX3_option 73 = .ok (.iload 4, 2) := by decide +kernel
theorem dX3_option_75 : decode cX3_option 75 = .ok (.iconst 1, 1) := by decide +kernel
theorem dX3_option_76 : decode cX3_option 76 = .ok (.isub, 1) := by decide +kernel
theorem dX3_option_77 : decode cX3_option 77 = .ok (.goto 5, 3) := by decide +kernel
theorem dX3_option_80 : decode cX3_option 80 = .ok (.bipush (-2), 2) := by decide +kernel
theorem dX3_option_82 : decode cX3_option 82 = .ok (.ireturn, 1) := by decide +kernel
theorem dX3_option_83 : decode cX3_option 83 = .ok (.iload_n 3, 1) := by decide +kernel
theorem dX3_option_84 : decode cX3_option 84 = .ok (.iconst 2, 1) := by decide +kernel
theorem dX3_option_85 : decode cX3_option 85 = .ok (.if_icmp .eq 8, 3) := by decide +kernel
theorem dX3_option_88 : decode cX3_option 88 = .ok (.iload_n 3, 1) := by decide +kernel
theorem dX3_option_89 : decode cX3_option 89 = .ok (.iconst 3, 1) := by decide +kernel
theorem dX3_option_90 : decode cX3_option 90 = .ok (.if_icmp .ne 12, 3) := by decide +kernel
theorem dX3_option_93 : decode cX3_option 93 = .ok (.iload 4, 2) := by decide +kernel
theorem dX3_option_95 : decode cX3_option 95 = .ok (.iload_n 2, 1) := by decide +kernel
theorem dX3_option_96 : decode cX3_option 96 = .ok (.invokestatic 144, 3) := by decide +kernel
theorem dX3_option_99 : decode cX3_option 99 = .ok (.goto 5, 3) := by decide +kernel
theorem dX3_option_102 : decode cX3_option 102 = .ok (.bipush (-2), 2) := by decide +kernel
theorem dX3_option_104 : decode cX3_option 104 = .ok (.ireturn, 1) := by decide +kernel
theorem dX3_neighbour_0 : decode cX3_neighbour 0 = .ok (.iload_n 0, 1) := by decide +kernel
theorem dX3_neighbour_1 : decode cX3_neighbour 1 = .ok (.bipush 8, 2) := by decide +kernel
theorem dX3_neighbour_3 : decode cX3_neighbour 3 = .ok (.idiv, 1) := by decide +kernel
theorem dX3_neighbour_4 : decode cX3_neighbour 4 = .ok (.istore_n 2, 1) := by decide +kernel
theorem dX3_neighbour_5 : decode cX3_neighbour 5 = .ok (.iload_n 0, 1) := by decide +kernel
theorem dX3_neighbour_6 : decode cX3_neighbour 6 = .ok (.bipush 8, 2) := by decide +kernel
theorem dX3_neighbour_8 : decode cX3_neighbour 8 = .ok (.irem, 1) := by decide +kernel
theorem dX3_neighbour_9 : decode cX3_neighbour 9 = .ok (.istore_n 3, 1) := by decide +kernel
theorem dX3_neighbour_10 : decode cX3_neighbour 10 = .ok (.iload_n 1, 1) := by decide +kernel
theorem dX3_neighbour_11 : decode cX3_neighbour 11 = .ok (.tableswitch 87 0 3 #[29, 43, 59, 72], 29) := by decide +kernel
theorem dX3_neighbour_40 : decode cX3_neighbour 40 = .ok (.iload_n 2, 1) := by decide +kernel
theorem dX3_neighbour_41 : decode cX3_neighbour 41 = .ok (.ifCond .le 10, 3) := by decide +kernel
theorem dX3_neighbour_44 : decode cX3_neighbour 44 = .ok (.iload_n 0, 1) := by decide +kernel
theorem dX3_neighbour_45 : decode cX3_neighbour 45 = .ok (.bipush 8, 2) := by decide +kernel
theorem dX3_neighbour_47 : decode cX3_neighbour 47 = .ok (.isub, 1) := by decide +kernel
theorem dX3_neighbour_48 : decode cX3_neighbour 48 = .ok (.goto 5, 3) := by decide +kernel
theorem dX3_neighbour_51 : decode cX3_neighbour 51 = .ok (.bipush (-2), 2) := by decide +kernel
theorem dX3_neighbour_53 : decode cX3_neighbour 53 = .ok (.ireturn, 1) := by decide +kernel
theorem dX3_neighbour_54 : decode cX3_neighbour 54 = .ok (.iload_n 2, 1) := by decide +kernel
theorem dX3_neighbour_55 : decode cX3_neighbour 55 = .ok (.bipush 7, 2) := by decide +kernel
theorem dX3_neighbour_57 : decode cX3_neighbour 57 = .ok (.if_icmp .ge 10, 3) := by decide +kernel
theorem dX3_neighbour_60 : decode cX3_neighbour 60 = .ok (.iload_n 0, 1) := by decide +kernel
theorem dX3_neighbour_61 : decode cX3_neighbour 61 = .ok (.bipush 8, 2) := by decide +kernel
theorem dX3_neighbour_63 : decode cX3_neighbour 63 = .ok (.iadd, 1) := by decide +kernel
theorem dX3_neighbour_64 : decode cX3_neighbour 64 = .ok (.goto 5, 3) := by decide +kernel
theorem dX3_neighbour_67 : decode cX3_neighbour 67 = .ok (.bipush (-2), 2) := by decide +kernel
theorem dX3_neighbour_69 : decode cX3_neighbour 69 = .ok (.ireturn, 1) := by decide +kernel
theorem dX3_neighbour_70 : decode cX3_neighbour 70 = .ok (.iload_n 3, 1) := by decide +kernel
theorem dX3_neighbour_71 : decode cX3_neighbour 71 = .ok (.ifCond .le 9, 3) := by decide +kernel
theorem dX3_neighbour_74 : decode cX3_neighbour 74 = .ok (.iload_n 0, 1) := by decide +kernel
theorem dX3_neighbour_75 : decode cX3_neighbour 75 = .ok (.iconst 1, 1) := by decide +kernel
theorem dX3_neighbour_76 : decode cX3_neighbour 76 = .ok (.isub, 1) := by decide +kernel
theorem dX3_neighbour_77 : decode cX3_neighbour 77 = .ok (.goto 5, 3) := by decide +kernel
theorem dX3_neighbour_80 : decode cX3_neighbour 80 = .ok (.bipush (-2), 2) := by decide +kernel
theorem dX3_neighbour_82 : decode cX3_neighbour 82 = .ok (.ireturn, 1) := by decide +kernel
theorem dX3_neighbour_83 : decode cX3_neighbour 83 = .ok (.iload_n 3, 1) := by decide +kernel
theorem dX3_neighbour_84 : decode cX3_neighbour 84 = .ok (.bipush 7, 2) := by decide +kernel
theorem dX3_neighbour_86 : decode cX3_neighbour 86 = .ok (.if_icmp .ge 9, 3) := by decide +kernel
theorem dX3_neighbour_89 : decode cX3_neighbour 89 = .ok (.iload_n 0, 1) := by decide +kernel
theorem dX3_neighbour_90 : decode cX3_neighbour 90 = .ok (.iconst 1, 1) := by decide +kernel
theorem dX3_neighbour_91 : decode cX3_neighbour 91 = .ok (.iadd, 1) := by decide +kernel
theorem dX3_neighbour_92 : decode cX3_neighbour 92 = .ok (.goto 5, 3) := by decide +kernel
theorem dX3_neighbour_95 : decode cX3_neighbour 95 = .ok (.bipush (-2), 2) := by decide +kernel
theorem dX3_neighbour_97 : decode cX3_neighbour 97 = .ok (.ireturn, 1) := by decide +kernel
theorem dX3_neighbour_98 : decode cX3_neighbour 98 = .ok (.bipush (-2), 2) := by decide +kernel
theorem dX3_neighbour_100 : decode cX3_neighbour 100 = .ok (.ireturn, 1) := by decide +kernel
theorem dX4_init_0 : decode cX4_init 0 = .ok (.aload_n 0, 1) := by decide +kernel
theorem dX4_init_1 : decode cX4_init 1 = .ok (.invokespecial 3, 3) := by decide +kernel
theorem dX4_init_4 : decode cX4_init 4 = .ok (.aload_n 0, 1) := by decide +kernel
theorem dX4_init_5 : decode cX4_init 5 = .ok (.sipush 384, 3) := by decide +kernel
theorem dX4_init_8 : decode cX4_init 8 = .ok (.newarray .int, 2) := by decide +kernel
theorem dX4_init_10 : decode cX4_init 10 = .ok (.putfield 9, 3) := by decide +kernel
theorem dX4_init_13 : decode cX4_init 13 = .ok (.aload_n 0, 1) := by decide +kernel
theorem dX4_init_14 : decode cX4_init 14 = .ok (.bipush 64, 2) := by decide +kernel
theorem dX4_init_16 : decode cX4_init 16 = .ok (.newarray .int, 2) := by decide +kernel
theorem dX4_init_18 : decode cX4_init 18 = .ok (.putfield 15, 3) := by decide +kernel
theorem dX4_init_21 : decode cX4_init 21 = .ok (.return_, 1) := by decide +kernel
theorem dX4_inputs_0 : decode cX4_inputs 0 = .ok (.aload_n 0, 1) := by decide +kernel
theorem dX4_inputs_1 : decode cX4_inputs 1 = .ok (.getfield 18, 3) := by decide +kernel
theorem dX4_inputs_4 : decode cX4_inputs 4 = .ok (.lreturn, 1) := by decide +kernel
theorem dX4_wanted_0 : decode cX4_wanted 0 = .ok (.aload_n 0, 1) := by decide +kernel
theorem dX4_wanted_1 : decode cX4_wanted 1 = .ok (.getfield 22, 3) := by decide +kernel
theorem dX4_wanted_4 : decode cX4_wanted 4 = .ok (.lreturn, 1) := by decide +kernel
theorem dX4_isInput_0 : decode cX4_isInput 0 = .ok (.aload_n 0, 1) := by decide +kernel
theorem dX4_isInput_1 : decode cX4_isInput 1 = .ok (.getfield 18, 3) := by decide +kernel
theorem dX4_isInput_4 : decode cX4_isInput 4 = .ok (.iload_n 1, 1) := by decide +kernel
theorem dX4_isInput_5 : decode cX4_isInput 5 = .ok (.invokestatic 25, 3) := by decide +kernel
theorem dX4_isInput_8 : decode cX4_isInput 8 = .ok (.land, 1) := by decide +kernel
theorem dX4_isInput_9 : decode cX4_isInput 9 = .ok (.lconst 0, 1) := by decide +kernel
theorem dX4_isInput_10 : decode cX4_isInput 10 = .ok (.lcmp, 1) := by decide +kernel
theorem dX4_isInput_11 : decode cX4_isInput 11 = .ok (.ifCond .eq 7, 3) := by decide +kernel
theorem dX4_isInput_14 : decode cX4_isInput 14 = .ok (.iconst 1, 1) := by decide +kernel
theorem dX4_isInput_15 : decode cX4_isInput 15 = .ok (.goto 4, 3) := by decide +kernel
theorem dX4_isInput_18 : decode cX4_isInput 18 = .ok (.iconst 0, 1) := by decide +kernel
theorem dX4_isInput_19 : decode cX4_isInput 19 = .ok (.ireturn, 1) := by decide +kernel
theorem dX4_isWanted_0 : decode cX4_isWanted 0 = .ok (.aload_n 0, 1) := by decide +kernel
theorem dX4_isWanted_1 : decode cX4_isWanted 1 = .ok (.getfield 22, 3) := by decide +kernel
theorem dX4_isWanted_4 : decode cX4_isWanted 4 = .ok (.iload_n 1, 1) := by decide +kernel
theorem dX4_isWanted_5 : decode cX4_isWanted 5 = .ok (.invokestatic 25, 3) := by decide +kernel
theorem dX4_isWanted_8 : decode cX4_isWanted 8 = .ok (.land, 1) := by decide +kernel
theorem dX4_isWanted_9 : decode cX4_isWanted 9 = .ok (.lconst 0, 1) := by decide +kernel
theorem dX4_isWanted_10 : decode cX4_isWanted 10 = .ok (.lcmp, 1) := by decide +kernel
theorem dX4_isWanted_11 : decode cX4_isWanted 11 = .ok (.ifCond .eq 7, 3) := by decide +kernel
theorem dX4_isWanted_14 : decode cX4_isWanted 14 = .ok (.iconst 1, 1) := by decide +kernel
theorem dX4_isWanted_15 : decode cX4_isWanted 15 = .ok (.goto 4, 3) := by decide +kernel
theorem dX4_isWanted_18 : decode cX4_isWanted 18 = .ok (.iconst 0, 1) := by decide +kernel
theorem dX4_isWanted_19 : decode cX4_isWanted 19 = .ok (.ireturn, 1) := by decide +kernel
theorem dX4_isWorld_0 : decode cX4_isWorld 0 = .ok (.iload_n 1, 1) := by decide +kernel
theorem dX4_isWorld_1 : decode cX4_isWorld 1 = .ok (.ifCond .lt 15, 3) := by decide +kernel
theorem dX4_isWorld_4 : decode cX4_isWorld 4 = .ok (.iload_n 1, 1) := by decide +kernel
theorem dX4_isWorld_5 : decode cX4_isWorld 5 = .ok (.aload_n 0, 1) := by decide +kernel
theorem dX4_isWorld_6 : decode cX4_isWorld 6 = .ok (.getfield 29, 3) := by decide +kernel
theorem dX4_isWorld_9 : decode cX4_isWorld 9 = .ok (.if_icmp .ge 7, 3) := by decide +kernel
theorem dX4_isWorld_12 : decode cX4_isWorld 12 = .ok (.iconst 1, 1) := by decide +kernel
theorem dX4_isWorld_13 : decode cX4_isWorld 13 = .ok (.goto 4, 3) := by decide +kernel
theorem dX4_isWorld_16 : decode cX4_isWorld 16 = .ok (.iconst 0, 1) := by decide +kernel
theorem dX4_isWorld_17 : decode cX4_isWorld 17 = .ok (.ireturn, 1) := by decide +kernel
theorem dX4_countInputs_0 : decode cX4_countInputs 0 = .ok (.aload_n 0, 1) := by decide +kernel
theorem dX4_countInputs_1 : decode cX4_countInputs 1 = .ok (.getfield 18, 3) := by decide +kernel
theorem dX4_countInputs_4 : decode cX4_countInputs 4 = .ok (.invokestatic 33, 3) := by decide +kernel
theorem dX4_countInputs_7 : decode cX4_countInputs 7 = .ok (.ireturn, 1) := by decide +kernel
theorem dX4_countWanted_0 : decode cX4_countWanted 0 = .ok (.aload_n 0, 1) := by decide +kernel
theorem dX4_countWanted_1 : decode cX4_countWanted 1 = .ok (.getfield 22, 3) := by decide +kernel
theorem dX4_countWanted_4 : decode cX4_countWanted 4 = .ok (.invokestatic 33, 3) := by decide +kernel
theorem dX4_countWanted_7 : decode cX4_countWanted 7 = .ok (.ireturn, 1) := by decide +kernel
theorem dX4_countWorlds_0 : decode cX4_countWorlds 0 = .ok (.aload_n 0, 1) := by decide +kernel
theorem dX4_countWorlds_1 : decode cX4_countWorlds 1 = .ok (.getfield 29, 3) := by decide +kernel
theorem dX4_countWorlds_4 : decode cX4_countWorlds 4 = .ok (.ireturn, 1) := by decide +kernel
theorem dX4_worth_0 : decode cX4_worth 0 = .ok (.iload_n 1, 1) := by decide +kernel
theorem dX4_worth_1 : decode cX4_worth 1 = .ok (.invokestatic 39, 3) := by decide +kernel
theorem dX4_worth_4 : decode cX4_worth 4 = .ok (.ifCond .eq 12, 3) := by decide +kernel
theorem dX4_worth_7 : decode cX4_worth 7 = .ok (.aload_n 0, 1) := by decide +kernel
theorem dX4_worth_8 : decode cX4_worth 8 = .ok (.getfield 15, 3) := by decide +kernel
theorem dX4_worth_11 : decode cX4_worth 11 = .ok (.iload_n 1, 1) := by decide +kernel
theorem dX4_worth_12 : decode cX4_worth 12 = .ok (.iaload, 1) := by decide +kernel
theorem dX4_worth_13 : decode cX4_worth 13 = .ok (.goto 4, 3) := by decide +kernel
theorem dX4_worth_16 : decode cX4_worth 16 = .ok (.iconst 0, 1) := by decide +kernel
theorem dX4_worth_17 : decode cX4_worth 17 = .ok (.ireturn, 1) := by decide +kernel
theorem dX4_worthOfAll_0 : decode cX4_worthOfAll 0 = .ok (.iconst 0, 1) := by decide +kernel
theorem dX4_worthOfAll_1 : decode cX4_worthOfAll 1 = .ok (.istore_n 1, 1) := by decide +kernel
theorem dX4_worthOfAll_2 : decode cX4_worthOfAll 2 = .ok (.iconst 0, 1) := by decide +kernel
theorem dX4_worthOfAll_3 : decode cX4_worthOfAll 3 = .ok (.istore_n 2, 1) := by decide +kernel
theorem dX4_worthOfAll_4 : decode cX4_worthOfAll 4 = .ok (.iload_n 2, 1) := by decide +kernel
theorem dX4_worthOfAll_5 : decode cX4_worthOfAll 5 = .ok (.bipush 64, 2) := by decide +kernel
theorem dX4_worthOfAll_7 : decode cX4_worthOfAll 7 = .ok (.if_icmp .ge 17, 3) := by decide +kernel
theorem dX4_worthOfAll_10 : decode cX4_worthOfAll 10 = .ok (.iload_n 1, 1) := by decide +kernel
theorem dX4_worthOfAll_11 : decode cX4_worthOfAll 11 = .ok (.aload_n 0, 1) := by decide +kernel
theorem dX4_worthOfAll_12 : decode cX4_worthOfAll 12 = .ok (.iload_n 2, 1) := by decide +kernel
theorem dX4_worthOfAll_13 : decode cX4_worthOfAll 13 = .ok (.invokevirtual 43, 3) := by decide +kernel
theorem dX4_worthOfAll_16 : decode cX4_worthOfAll 16 = .ok (.iadd, 1) := by decide +kernel
theorem dX4_worthOfAll_17 : decode cX4_worthOfAll 17 = .ok (.istore_n 1, 1) := by decide +kernel
theorem dX4_worthOfAll_18 : decode cX4_worthOfAll 18 = .ok (.iinc 2 1, 3) := by decide +kernel
theorem dX4_worthOfAll_21 : decode cX4_worthOfAll 21 = .ok (.goto (-17), 3) := by decide +kernel
theorem dX4_worthOfAll_24 : decode cX4_worthOfAll 24 = .ok (.iload_n 1, 1) := by decide +kernel
theorem dX4_worthOfAll_25 : decode cX4_worthOfAll 25 = .ok (.ireturn, 1) := by decide +kernel
theorem dX4_given_0 : decode cX4_given 0 = .ok (.aload_n 0, 1) := by decide +kernel
theorem dX4_given_1 : decode cX4_given 1 = .ok (.iload_n 1, 1) := by decide +kernel
theorem dX4_given_2 : decode cX4_given 2 = .ok (.invokevirtual 47, 3) := by decide +kernel
theorem dX4_given_5 : decode cX4_given 5 = .ok (.ifCond .eq 30, 3) := by decide +kernel
theorem dX4_given_8 : decode cX4_given 8 = .ok (.iload_n 1, 1) := by decide +kernel
theorem dX4_given_9 : decode cX4_given 9 = .ok (.bipush 6, 2) := by decide +kernel
theorem dX4_given_11 : decode cX4_given 11 = .ok (.if_icmp .ge 24, 3) := by decide +kernel
theorem dX4_given_14 : decode cX4_given 14 = .ok (.iload_n 2, 1) := by decide +kernel
theorem dX4_given_15 : decode cX4_given 15 = .ok (.invokestatic 39, 3) := by decide +kernel
theorem dX4_given_18 : decode cX4_given 18 = .ok (.ifCond .eq 17, 3) := by decide +kernel
theorem dX4_given_21 : decode cX4_given 21 = .ok (.aload_n 0, 1) := by decide +kernel
theorem dX4_given_22 : decode cX4_given 22 = .ok (.getfield 9, 3) := by decide +kernel
theorem dX4_given_25 : decode cX4_given 25 = .ok (.iload_n 1, 1) := by decide +kernel
theorem dX4_given_26 : decode cX4_given 26 = .ok (.bipush 64, 2) := by decide +kernel
theorem dX4_given_28 : decode cX4_given 28 = .ok (.imul, 1) := by decide +kernel
theorem dX4_given_29 : decode cX4_given 29 = .ok (.iload_n 2, 1) := by decide +kernel
theorem dX4_given_30 : decode cX4_given 30 = .ok (.iadd, 1) := by decide +kernel
theorem dX4_given_31 : decode cX4_given 31 = .ok (.iaload, 1) := by decide +kernel
theorem dX4_given_32 : decode cX4_given 32 = .ok (.goto 4, 3) := by decide +kernel
theorem dX4_given_35 : decode cX4_given 35 = .ok (.iconst 0, 1) := by decide +kernel
theorem dX4_given_36 : decode cX4_given 36 = .ok (.ireturn, 1) := by decide +kernel
theorem dX4_addInput_0 : decode cX4_addInput 0 = .ok (.aload_n 0, 1) := by decide +kernel
theorem dX4_addInput_1 : decode cX4_addInput 1 = .ok (.dup, 1) := by decide +kernel
theorem dX4_addInput_2 : decode cX4_addInput 2 = .ok (.getfield 18, 3) := by decide +kernel
theorem dX4_addInput_5 : decode cX4_addInput 5 = .ok (.iload_n 1, 1) := by decide +kernel
theorem dX4_addInput_6 : decode cX4_addInput 6 = .ok (.invokestatic 25, 3) := by decide +kernel
theorem dX4_addInput_9 : decode cX4_addInput 9 = .ok (.lor, 1) := by decide +kernel
theorem dX4_addInput_10 : decode cX4_addInput 10 = .ok (.putfield 18, 3) := by decide +kernel
theorem dX4_addInput_13 : decode cX4_addInput 13 = .ok (.return_, 1) := by decide +kernel
theorem dX4_want_0 : decode cX4_want 0 = .ok (.iload_n 1, 1) := by decide +kernel
theorem dX4_want_1 : decode cX4_want 1 = .ok (.invokestatic 39, 3) := by decide +kernel
theorem dX4_want_4 : decode cX4_want 4 = .ok (.ifCond .eq 23, 3) := by decide +kernel
theorem dX4_want_7 : decode cX4_want 7 = .ok (.aload_n 0, 1) := by decide +kernel
theorem dX4_want_8 : decode cX4_want 8 = .ok (.dup, 1) := by decide +kernel
theorem dX4_want_9 : decode cX4_want 9 = .ok (.getfield 22, 3) := by decide +kernel
theorem dX4_want_12 : decode cX4_want 12 = .ok (.iload_n 1, 1) := by decide +kernel
theorem dX4_want_13 : decode cX4_want 13 = .ok (.invokestatic 25, 3) := by decide +kernel
theorem dX4_want_16 : decode cX4_want 16 = .ok (.lor, 1) := by decide +kernel
theorem dX4_want_17 : decode cX4_want 17 = .ok (.putfield 22, 3) := by decide +kernel
theorem dX4_want_20 : decode cX4_want 20 = .ok (.aload_n 0, 1) := by decide +kernel
theorem dX4_want_21 : decode cX4_want 21 = .ok (.getfield 15, 3) := by decide +kernel
theorem dX4_want_24 : decode cX4_want 24 = .ok (.iload_n 1, 1) := by decide +kernel
theorem dX4_want_25 : decode cX4_want 25 = .ok (.iload_n 2, 1) := by decide +kernel
theorem dX4_want_26 : decode cX4_want 26 = .ok (.iastore, 1) := by decide +kernel
theorem dX4_want_27 : decode cX4_want 27 = .ok (.return_, 1) := by decide +kernel
theorem dX4_addWorld_0 : decode cX4_addWorld 0 = .ok (.aload_n 0, 1) := by decide +kernel
theorem dX4_addWorld_1 : decode cX4_addWorld 1 = .ok (.dup, 1) := by decide +kernel
theorem dX4_addWorld_2 : decode cX4_addWorld 2 = .ok (.getfield 29, 3) := by decide +kernel
theorem dX4_addWorld_5 : decode cX4_addWorld 5 = .ok (.iconst 1, 1) := by decide +kernel
theorem dX4_addWorld_6 : decode cX4_addWorld 6 = .ok (.iadd, 1) := by decide +kernel
theorem dX4_addWorld_7 : decode cX4_addWorld 7 = .ok (.putfield 29, 3) := by decide +kernel
theorem dX4_addWorld_10 : decode cX4_addWorld 10 = .ok (.aload_n 0, 1) := by decide +kernel
theorem dX4_addWorld_11 : decode cX4_addWorld 11 = .ok (.getfield 29, 3) := by decide +kernel
theorem dX4_addWorld_14 : decode cX4_addWorld 14 = .ok (.iconst 1, 1) := by decide +kernel
theorem dX4_addWorld_15 : decode cX4_addWorld 15 = .ok (.isub, 1) := by decide +kernel
theorem dX4_addWorld_16 : decode cX4_addWorld 16 = .ok (.ireturn, 1) := by decide +kernel
theorem dX4_put_0 : decode cX4_put 0 = .ok (.aload_n 0, 1) := by decide +kernel
theorem dX4_put_1 : decode cX4_put 1 = .ok (.iload_n 1, 1) := by decide +kernel
theorem dX4_put_2 : decode cX4_put 2 = .ok (.invokevirtual 47, 3) := by decide +kernel
theorem dX4_put_5 : decode cX4_put 5 = .ok (.ifCond .eq 28, 3) := by decide +kernel
theorem dX4_put_8 : decode cX4_put 8 = .ok (.iload_n 1, 1) := by decide +kernel
theorem dX4_put_9 : decode cX4_put 9 = .ok (.bipush 6, 2) := by decide +kernel
theorem dX4_put_11 : decode cX4_put 11 = .ok (.if_icmp .ge 22, 3) := by decide +kernel
theorem dX4_put_14 : decode cX4_put 14 = .ok (.iload_n 2, 1) := by decide +kernel
theorem dX4_put_15 : decode cX4_put 15 = .ok (.invokestatic 39, 3) := by decide +kernel
theorem dX4_put_18 : decode cX4_put 18 = .ok (.ifCond .eq 15, 3) := by decide +kernel
theorem dX4_put_21 : decode cX4_put 21 = .ok (.aload_n 0, 1) := by decide +kernel
theorem dX4_put_22 : decode cX4_put 22 = .ok (.getfield 9, 3) := by decide +kernel
theorem dX4_put_25 : decode cX4_put 25 = .ok (.iload_n 1, 1) := by decide +kernel
theorem dX4_put_26 : decode cX4_put 26 = .ok (.bipush 64, 2) := by decide +kernel
theorem dX4_put_28 : decode cX4_put 28 = .ok (.imul, 1) := by decide +kernel
theorem dX4_put_29 : decode cX4_put 29 = .ok (.iload_n 2, 1) := by decide +kernel
theorem dX4_put_30 : decode cX4_put 30 = .ok (.iadd, 1) := by decide +kernel
theorem dX4_put_31 : decode cX4_put 31 = .ok (.iload_n 3, 1) := by decide +kernel
theorem dX4_put_32 : decode cX4_put 32 = .ok (.iastore, 1) := by decide +kernel
theorem dX4_put_33 : decode cX4_put 33 = .ok (.return_, 1) := by decide +kernel
theorem dX5_init_0 : decode cX5_init 0 = .ok (.aload_n 0, 1) := by decide +kernel
theorem dX5_init_1 : decode cX5_init 1 = .ok (.invokespecial 3, 3) := by decide +kernel
theorem dX5_init_4 : decode cX5_init 4 = .ok (.aload_n 0, 1) := by decide +kernel
theorem dX5_init_5 : decode cX5_init 5 = .ok (.bipush 40, 2) := by decide +kernel
theorem dX5_init_7 : decode cX5_init 7 = .ok (.newarray .long, 2) := by decide +kernel
theorem dX5_init_9 : decode cX5_init 9 = .ok (.putfield 9, 3) := by decide +kernel
theorem dX5_init_12 : decode cX5_init 12 = .ok (.return_, 1) := by decide +kernel
theorem dX5_errorMet_0 : decode cX5_errorMet 0 = .ok (.aload_n 0, 1) := by decide +kernel
theorem dX5_errorMet_1 : decode cX5_errorMet 1 = .ok (.getfield 15, 3) := by decide +kernel
theorem dX5_errorMet_4 : decode cX5_errorMet 4 = .ok (.ireturn, 1) := by decide +kernel
theorem dX5_result_0 : decode cX5_result 0 = .ok (.aload_n 0, 1) := by decide +kernel
theorem dX5_result_1 : decode cX5_result 1 = .ok (.getfield 19, 3) := by decide +kernel
theorem dX5_result_4 : decode cX5_result 4 = .ok (.lreturn, 1) := by decide +kernel
theorem dX5_reckon_0 : decode cX5_reckon 0 = .ok (.aload_n 0, 1) := by decide +kernel
theorem dX5_reckon_1 : decode cX5_reckon 1 = .ok (.iconst 0, 1) := by decide +kernel
theorem dX5_reckon_2 : decode cX5_reckon 2 = .ok (.putfield 23, 3) := by decide +kernel
theorem dX5_reckon_5 : decode cX5_reckon 5 = .ok (.aload_n 0, 1) := by decide +kernel
theorem dX5_reckon_6 : decode cX5_reckon 6 = .ok (.iconst 0, 1) := by decide +kernel
theorem dX5_reckon_7 : decode cX5_reckon 7 = .ok (.putfield 15, 3) := by decide +kernel
theorem dX5_reckon_10 : decode cX5_reckon 10 = .ok (.iconst 0, 1) := by decide +kernel
theorem dX5_reckon_11 : decode cX5_reckon 11 = .ok (.istore 5, 2) := by decide +kernel
theorem dX5_reckon_13 : decode cX5_reckon 13 = .ok (.iload 5, 2) := by decide +kernel
theorem dX5_reckon_15 : decode cX5_reckon 15 = .ok (.aload_n 1, 1) := by decide +kernel
theorem dX5_reckon_16 : decode cX5_reckon 16 = .ok (.invokevirtual 26, 3) := by decide +kernel
theorem dX5_reckon_19 : decode cX5_reckon 19 = .ok (.if_icmp .ge 129, 3) := by decide +kernel
theorem dX5_reckon_22 : decode cX5_reckon 22 = .ok (.aload_n 0, 1) := by decide +kernel
theorem dX5_reckon_23 : decode cX5_reckon 23 = .ok (.getfield 15, 3) := by decide +kernel
theorem dX5_reckon_26 : decode cX5_reckon 26 = .ok (.ifCond .ne 122, 3) := by decide +kernel
theorem dX5_reckon_29 : decode cX5_reckon 29 = .ok (.aload_n 1, 1) := by decide +kernel
theorem dX5_reckon_30 : decode cX5_reckon 30 = .ok (.iload 5, 2) := by decide +kernel
theorem dX5_reckon_32 : decode cX5_reckon 32 = .ok (.invokevirtual 32, 3) := by decide +kernel
theorem dX5_reckon_35 : decode cX5_reckon 35 = .ok (.istore 6, 2) := by decide +kernel
theorem dX5_reckon_37 : decode cX5_reckon 37 = .ok (.aload_n 2, 1) := by decide +kernel
theorem dX5_reckon_38 : decode cX5_reckon 38 = .ok (.aload_n 1, 1) := by decide +kernel
theorem dX5_reckon_39 : decode cX5_reckon 39 = .ok (.iload 6, 2) := by decide +kernel
theorem dX5_reckon_41 : decode cX5_reckon 41 = .ok (.invokevirtual 36, 3) := by decide +kernel
theorem dX5_reckon_44 : decode cX5_reckon 44 = .ok (.istore 7, 2) := by decide +kernel
theorem dX5_reckon_46 : decode cX5_reckon 46 = .ok (.aload_n 2, 1) := by decide +kernel
theorem dX5_reckon_47 : decode cX5_reckon 47 = .ok (.aload_n 1, 1) := by decide +kernel
theorem dX5_reckon_48 : decode cX5_reckon 48 = .ok (.iload 6, 2) := by decide +kernel
theorem dX5_reckon_50 : decode cX5_reckon 50 = .ok (.invokevirtual 42, 3) := by decide +kernel
theorem dX5_reckon_53 : decode cX5_reckon 53 = .ok (.istore 8, 2) := by decide +kernel
theorem dX5_reckon_55 : decode cX5_reckon 55 = .ok (.iload 8, 2) := by decide +kernel
theorem dX5_reckon_57 : decode cX5_reckon 57 = .ok (.tableswitch 79 1 5 #[35, 45, 35, 57, 69], 35) := by decide +kernel
theorem dX5_reckon_92 : decode cX5_reckon 92 = .ok (.aload_n 0, 1) := by decide +kernel
theorem dX5_reckon_93 : decode cX5_reckon 93 = .ok (.iload 7, 2) := by decide +kernel
theorem dX5_reckon_95 : decode cX5_reckon 95 = .ok (.i2l, 1) := by decide +kernel
theorem dX5_reckon_96 : decode cX5_reckon 96 = .ok (.invokevirtual 45, 3) := by decide +kernel
theorem dX5_reckon_99 : decode cX5_reckon 99 = .ok (.goto 43, 3) := by decide +kernel
theorem dX5_reckon_102 : decode cX5_reckon 102 = .ok (.aload_n 0, 1) := by decide +kernel
theorem dX5_reckon_103 : decode cX5_reckon 103 = .ok (.aload_n 3, 1) := by decide +kernel
theorem dX5_reckon_104 : decode cX5_reckon 104 = .ok (.iload 4, 2) := by decide +kernel
theorem dX5_reckon_106 : decode cX5_reckon 106 = .ok (.iload 7, 2) := by decide +kernel
theorem dX5_reckon_108 : decode cX5_reckon 108 = .ok (.invokevirtual 49, 3) := by decide +kernel
theorem dX5_reckon_111 : decode cX5_reckon 111 = .ok (.goto 31, 3) := by decide +kernel
theorem dX5_reckon_114 : decode cX5_reckon 114 = .ok (.aload_n 0, 1) := by decide +kernel
theorem dX5_reckon_115 : decode cX5_reckon 115 = .ok (.aload_n 0, 1) := by decide +kernel
theorem dX5_reckon_116 : decode cX5_reckon 116 = .ok (.invokevirtual 53, 3) := by decide +kernel
theorem dX5_reckon_119 : decode cX5_reckon 119 = .ok (.lneg, 1) := by decide +kernel
theorem dX5_reckon_120 : decode cX5_reckon 120 = .ok (.invokevirtual 45, 3) := by decide +kernel
theorem dX5_reckon_123 : decode cX5_reckon 123 = .ok (.goto 19, 3) := by decide +kernel
theorem dX5_reckon_126 : decode cX5_reckon 126 = .ok (.aload_n 0, 1) := by decide +kernel
theorem dX5_reckon_127 : decode cX5_reckon 127 = .ok (.aload_n 3, 1) := by decide +kernel
theorem dX5_reckon_128 : decode cX5_reckon 128 = .ok (.iload 4, 2) := by decide +kernel
theorem dX5_reckon_130 : decode cX5_reckon 130 = .ok (.invokevirtual 57, 3) := by decide +kernel
theorem dX5_reckon_133 : decode cX5_reckon 133 = .ok (.goto 9, 3) := by decide +kernel
theorem dX5_reckon_136 : decode cX5_reckon 136 = .ok (.aload_n 0, 1) := by decide +kernel
theorem dX5_reckon_137 : decode cX5_reckon 137 = .ok (.iload 8, 2) := by decide +kernel
theorem dX5_reckon_139 : decode cX5_reckon 139 = .ok (.invokevirtual 61, 3) := by decide +kernel
theorem dX5_reckon_142 : decode cX5_reckon 142 = .ok (.iinc 5 1, 3) := by decide +kernel
theorem dX5_reckon_145 : decode cX5_reckon 145 = .ok (.goto (-132), 3) := by decide +kernel
theorem dX5_reckon_148 : decode cX5_reckon 148 = .ok (.aload_n 0, 1) := by decide +kernel
theorem dX5_reckon_149 : decode cX5_reckon 149 = .ok (.aload_n 0, 1) := by decide +kernel
theorem dX5_reckon_150 : decode cX5_reckon 150 = .ok (.getfield 15, 3) := by decide +kernel
theorem dX5_reckon_153 : decode cX5_reckon 153 = .ok (.ifCond .ne 10, 3) := by decide +kernel
theorem dX5_reckon_156 : decode cX5_reckon 156 = .ok (.aload_n 0, 1) := by decide +kernel
theorem dX5_reckon_157 : decode cX5_reckon 157 = .ok (.invokevirtual 53, 3) := by decide +kernel
theorem dX5_reckon_160 : decode cX5_reckon 160 = .ok (.goto 4, 3) := by decide +kernel
theorem dX5_reckon_163 : decode cX5_reckon 163 = .ok (.lconst 0, 1) := by decide +kernel
theorem dX5_reckon_164 : decode cX5_reckon 164 = .ok (.putfield 19, 3) := by decide +kernel
theorem dX5_reckon_167 : decode cX5_reckon 167 = .ok (.return_, 1) := by decide +kernel
theorem dX5_push_0 : decode cX5_push 0 = .ok (.lload_n 1, 1) := by decide +kernel
theorem dX5_push_1 : decode cX5_push 1 = .ok (.ldc2_w 65, 3) := by decide +kernel
theorem dX5_push_4 : decode cX5_push 4 = .ok (.lcmp, 1) := by decide +kernel
theorem dX5_push_5 : decode cX5_push 5 = .ok (.ifCond .gt 11, 3) := by decide +kernel
theorem dX5_push_8 : decode cX5_push 8 = .ok (.lload_n 1, 1) := by decide +kernel
theorem dX5_push_9 : decode cX5_push 9 = .ok (.ldc2_w 67, 3) := by decide +kernel
theorem dX5_push_12 : decode cX5_push 12 = .ok (.lcmp, 1) := by decide +kernel
theorem dX5_push_13 : decode cX5_push 13 = .ok (.ifCond .ge 11, 3) := by decide +kernel
theorem dX5_push_16 : decode cX5_push 16 = .ok (.aload_n 0, 1) := by decide +kernel
theorem dX5_push_17 : decode cX5_push 17 = .ok (.iconst 3, 1) := by decide +kernel
theorem dX5_push_18 : decode cX5_push 18 = .ok (.putfield 15, 3) := by decide +kernel
theorem dX5_push_21 : decode cX5_push 21 = .ok (.goto 42, 3) := by decide +kernel
theorem dX5_push_24 : decode cX5_push 24 = .ok (.aload_n 0, 1) := by decide +kernel
theorem dX5_push_25 : decode cX5_push 25 = .ok (.getfield 23, 3) := by decide +kernel
theorem dX5_push_28 : decode cX5_push 28 = .ok (.ifCond .lt 35, 3) := by decide +kernel
theorem dX5_push_31 : decode cX5_push 31 = .ok (.aload_n 0, 1) := by decide +kernel
theorem dX5_push_32 : decode cX5_push 32 = .ok (.getfield 23, 3) := by decide +kernel
theorem dX5_push_35 : decode cX5_push 35 = .ok (.aload_n 0, 1) := by decide +kernel
theorem dX5_push_36 : decode cX5_push 36 = .ok (.getfield 9, 3) := by decide +kernel
theorem dX5_push_39 : decode cX5_push 39 = .ok (.arraylength, 1) := by decide +kernel
theorem dX5_push_40 : decode cX5_push 40 = .ok (.if_icmp .ge 23, 3) := by decide +kernel
theorem dX5_push_43 : decode cX5_push 43 = .ok (.aload_n 0, 1) := by decide +kernel
theorem dX5_push_44 : decode cX5_push 44 = .ok (.getfield 9, 3) := by decide +kernel
theorem dX5_push_47 : decode cX5_push 47 = .ok (.aload_n 0, 1) := by decide +kernel
theorem dX5_push_48 : decode cX5_push 48 = .ok (.getfield 23, 3) := by decide +kernel
theorem dX5_push_51 : decode cX5_push 51 = .ok (.lload_n 1, 1) := by decide +kernel
theorem dX5_push_52 : decode cX5_push 52 = .ok (.lastore, 1) := by decide +kernel
theorem dX5_push_53 : decode cX5_push 53 = .ok (.aload_n 0, 1) := by decide +kernel
theorem dX5_push_54 : decode cX5_push 54 = .ok (.dup, 1) := by decide +kernel
theorem dX5_push_55 : decode cX5_push 55 = .ok (.getfield 23, 3) := by decide +kernel
theorem dX5_push_58 : decode cX5_push 58 = .ok (.iconst 1, 1) := by decide +kernel
theorem dX5_push_59 : decode cX5_push 59 = .ok (.iadd, 1) := by decide +kernel
theorem dX5_push_60 : decode cX5_push 60 = .ok (.putfield 23, 3) := by decide +kernel
theorem dX5_push_63 : decode cX5_push 63 = .ok (.return_, 1) := by decide +kernel
theorem dX5_pop_0 : decode cX5_pop 0 = .ok (.aload_n 0, 1) := by decide +kernel
theorem dX5_pop_1 : decode cX5_pop 1 = .ok (.getfield 23, 3) := by decide +kernel
theorem dX5_pop_4 : decode cX5_pop 4 = .ok (.ifCond .le 15, 3) := by decide +kernel
theorem dX5_pop_7 : decode cX5_pop 7 = .ok (.aload_n 0, 1) := by decide +kernel
theorem dX5_pop_8 : decode cX5_pop 8 = .ok (.getfield 23, 3) := by decide +kernel
theorem dX5_pop_11 : decode cX5_pop 11 = .ok (.aload_n 0, 1) := by decide +kernel
theorem dX5_pop_12 : decode cX5_pop 12 = .ok (.getfield 9, 3) := by decide +kernel
theorem dX5_pop_15 : decode cX5_pop 15 = .ok (.arraylength, 1) := by decide +kernel
theorem dX5_pop_16 : decode cX5_pop 16 = .ok (.if_icmp .le 5, 3) := by decide +kernel
theorem dX5_pop_19 : decode cX5_pop 19 = .ok (.lconst 0, 1) := by decide +kernel
theorem dX5_pop_20 : decode cX5_pop 20 = .ok (.lreturn, 1) := by decide +kernel
theorem dX5_pop_21 : decode cX5_pop 21 = .ok (.aload_n 0, 1) := by decide +kernel
theorem dX5_pop_22 : decode cX5_pop 22 = .ok (.dup, 1) := by decide +kernel
theorem dX5_pop_23 : decode cX5_pop 23 = .ok (.getfield 23, 3) := by decide +kernel
theorem dX5_pop_26 : decode cX5_pop 26 = .ok (.iconst 1, 1) := by decide +kernel
theorem dX5_pop_27 : decode cX5_pop 27 = .ok (.isub, 1) := by decide +kernel
theorem dX5_pop_28 : decode cX5_pop 28 = .ok (.putfield 23, 3) := by decide +kernel
theorem dX5_pop_31 : decode cX5_pop 31 = .ok (.aload_n 0, 1) := by decide +kernel
theorem dX5_pop_32 : decode cX5_pop 32 = .ok (.getfield 9, 3) := by decide +kernel
theorem dX5_pop_35 : decode cX5_pop 35 = .ok (.aload_n 0, 1) := by decide +kernel
theorem dX5_pop_36 : decode cX5_pop 36 = .ok (.getfield 23, 3) := by decide +kernel
theorem dX5_pop_39 : decode cX5_pop 39 = .ok (.laload, 1) := by decide +kernel
theorem dX5_pop_40 : decode cX5_pop 40 = .ok (.lreturn, 1) := by decide +kernel
theorem dX5_pushCell_0 : decode cX5_pushCell 0 = .ok (.aload_n 0, 1) := by decide +kernel
theorem dX5_pushCell_1 : decode cX5_pushCell 1 = .ok (.aload_n 1, 1) := by decide +kernel
theorem dX5_pushCell_2 : decode cX5_pushCell 2 = .ok (.iload_n 2, 1) := by decide +kernel
theorem dX5_pushCell_3 : decode cX5_pushCell 3 = .ok (.iload_n 3, 1) := by decide +kernel
theorem dX5_pushCell_4 : decode cX5_pushCell 4 = .ok (.invokevirtual 69, 3) := by decide +kernel
theorem dX5_pushCell_7 : decode cX5_pushCell 7 = .ok (.putfield 15, 3) := by decide +kernel
theorem dX5_pushCell_10 : decode cX5_pushCell 10 = .ok (.aload_n 0, 1) := by decide +kernel
theorem dX5_pushCell_11 : decode cX5_pushCell 11 = .ok (.getfield 15, 3) := by decide +kernel
theorem dX5_pushCell_14 : decode cX5_pushCell 14 = .ok (.ifCond .ne 13, 3) := by decide +kernel
theorem dX5_pushCell_17 : decode cX5_pushCell 17 = .ok (.aload_n 0, 1) := by decide +kernel
theorem dX5_pushCell_18 : decode cX5_pushCell 18 = .ok (.aload_n 1, 1) := by decide +kernel
theorem dX5_pushCell_19 : decode cX5_pushCell 19 = .ok (.iload_n 2, 1) := by decide +kernel
theorem dX5_pushCell_20 : decode cX5_pushCell 20 = .ok (.iload_n 3, 1) := by decide +kernel
theorem dX5_pushCell_21 : decode cX5_pushCell 21 = .ok (.invokevirtual 75, 3) := by decide +kernel
theorem dX5_pushCell_24 : decode cX5_pushCell 24 = .ok (.invokevirtual 45, 3) := by decide +kernel
theorem dX5_pushCell_27 : decode cX5_pushCell 27 = .ok (.return_, 1) := by decide +kernel
theorem dX5_pushRectangle_0 : decode cX5_pushRectangle 0 = .ok (.aload_n 0, 1) := by decide +kernel
theorem dX5_pushRectangle_1 : decode cX5_pushRectangle 1 = .ok (.invokevirtual 53, 3) := by decide +kernel
theorem dX5_pushRectangle_4 : decode cX5_pushRectangle 4 = .ok (.l2i, 1) := by decide +kernel
theorem dX5_pushRectangle_5 : decode cX5_pushRectangle 5 = .ok (.istore_n 3, 1) := by decide +kernel
theorem dX5_pushRectangle_6 : decode cX5_pushRectangle 6 = .ok (.aload_n 0, 1) := by decide +kernel
theorem dX5_pushRectangle_7 : decode cX5_pushRectangle 7 = .ok (.invokevirtual 53, 3) := by decide +kernel
theorem dX5_pushRectangle_10 : decode cX5_pushRectangle 10 = .ok (.l2i, 1) := by decide +kernel
theorem dX5_pushRectangle_11 : decode cX5_pushRectangle 11 = .ok (.istore 4, 2) := by decide +kernel
theorem dX5_pushRectangle_13 : decode cX5_pushRectangle 13 = .ok (.iload 4, 2) := by decide +kernel
theorem dX5_pushRectangle_15 : decode cX5_pushRectangle 15 = .ok (.iload_n 3, 1) := by decide +kernel
theorem dX5_pushRectangle_16 : decode cX5_pushRectangle 16 = .ok (.invokestatic 79, 3) := by decide +kernel
theorem dX5_pushRectangle_19 : decode cX5_pushRectangle 19 = .ok (.lstore 5, 2) := by decide +kernel
theorem dX5_pushRectangle_21 : decode cX5_pushRectangle 21 = .ok (.aload_n 0, 1) := by decide +kernel
theorem dX5_pushRectangle_22 : decode cX5_pushRectangle 22 = .ok (.lconst 0, 1) := by decide +kernel
theorem dX5_pushRectangle_23 : decode cX5_pushRectangle 23 = .ok (.invokevirtual 45, 3) := by decide +kernel
theorem dX5_pushRectangle_26 : decode cX5_pushRectangle 26 = .ok (.iconst 0, 1) := by decide +kernel
theorem dX5_pushRectangle_27 : decode cX5_pushRectangle 27 = .ok (.istore 7, 2) := by decide +kernel
theorem dX5_pushRectangle_29 : decode cX5_pushRectangle 29 = .ok (.iload 7, 2) := by decide +kernel
theorem dX5_pushRectangle_31 : decode cX5_pushRectangle 31 = .ok (.bipush 64, 2) := by decide +kernel
theorem dX5_pushRectangle_33 : decode cX5_pushRectangle 33 = .ok (.if_icmp .ge 56, 3) := by decide +kernel
theorem dX5_pushRectangle_36 : decode cX5_pushRectangle 36 = .ok (.aload_n 0, 1) := by decide +kernel
theorem dX5_pushRectangle_37 : decode cX5_pushRectangle 37 = .ok (.getfield 15, 3) := by decide +kernel
theorem dX5_pushRectangle_40 : decode cX5_pushRectangle 40 = .ok (.ifCond .ne 49, 3) := by decide +kernel
theorem dX5_pushRectangle_43 : decode cX5_pushRectangle 43 = .ok (.lload 5, 2) := by decide +kernel
theorem dX5_pushRectangle_45 : decode cX5_pushRectangle 45 = .ok (.iload 7, 2) := by decide +kernel
theorem dX5_pushRectangle_47 : decode cX5_pushRectangle 47 = .ok (.invokestatic 82, 3) := by decide +kernel
theorem dX5_pushRectangle_50 : decode cX5_pushRectangle 50 = .ok (.land, 1) := by decide +kernel
theorem dX5_pushRectangle_51 : decode cX5_pushRectangle 51 = .ok (.lconst 0, 1) := by decide +kernel
theorem dX5_pushRectangle_52 : decode cX5_pushRectangle 52 = .ok (.lcmp, 1) := by decide +kernel
theorem dX5_pushRectangle_53 : decode cX5_pushRectangle 53 = .ok (.ifCond .eq 30, 3) := by decide +kernel
theorem dX5_pushRectangle_56 : decode cX5_pushRectangle 56 = .ok (.aload_n 0, 1) := by decide +kernel
theorem dX5_pushRectangle_57 : decode cX5_pushRectangle 57 = .ok (.aload_n 1, 1) := by decide +kernel
theorem dX5_pushRectangle_58 : decode cX5_pushRectangle 58 = .ok (.iload_n 2, 1) := by decide +kernel
theorem dX5_pushRectangle_59 : decode cX5_pushRectangle 59 = .ok (.iload 7, 2) := by decide +kernel
theorem dX5_pushRectangle_61 : decode cX5_pushRectangle 61 = .ok (.invokevirtual 69, 3) := by decide +kernel
theorem dX5_pushRectangle_64 : decode cX5_pushRectangle 64 = .ok (.putfield 15, 3) := by decide +kernel
theorem dX5_pushRectangle_67 : decode cX5_pushRectangle 67 = .ok (.aload_n 0, 1) := by decide +kernel
theorem dX5_pushRectangle_68 : decode cX5_pushRectangle 68 = .ok (.aload_n 0, 1) := by decide +kernel
theorem dX5_pushRectangle_69 : decode cX5_pushRectangle 69 = .ok (.invokevirtual 53, 3) := by decide +kernel
theorem dX5_pushRectangle_72 : decode cX5_pushRectangle 72 = .ok (.aload_n 1, 1) := by decide +kernel
theorem dX5_pushRectangle_73 : decode cX5_pushRectangle 73 = .ok (.iload_n 2, 1) := by decide +kernel
theorem dX5_pushRectangle_74 : decode cX5_pushRectangle 74 = .ok (.iload 7, 2) := by decide +kernel
theorem dX5_pushRectangle_76 : decode cX5_pushRectangle 76 = .ok (.invokevirtual 75, 3) := by decide +kernel
theorem dX5_pushRectangle_79 : decode cX5_pushRectangle 79 = .ok (.ladd, 1) := by decide +kernel
theorem dX5_pushRectangle_80 : decode cX5_pushRectangle 80 = .ok (.invokevirtual 45, 3) := by decide +kernel
theorem dX5_pushRectangle_83 : decode cX5_pushRectangle 83 = .ok (.iinc 7 1, 3) := by decide +kernel
theorem dX5_pushRectangle_86 : decode cX5_pushRectangle 86 = .ok (.goto (-57), 3) := by decide +kernel
theorem dX5_pushRectangle_89 : decode cX5_pushRectangle 89 = .ok (.return_, 1) := by decide +kernel
theorem dX5_join_0 : decode cX5_join 0 = .ok (.aload_n 0, 1) := by decide +kernel
theorem dX5_join_1 : decode cX5_join 1 = .ok (.invokevirtual 53, 3) := by decide +kernel
theorem dX5_join_4 : decode cX5_join 4 = .ok (.lstore_n 2, 1) := by decide +kernel
theorem dX5_join_5 : decode cX5_join 5 = .ok (.aload_n 0, 1) := by decide +kernel
theorem dX5_join_6 : decode cX5_join 6 = .ok (.invokevirtual 53, 3) := by decide +kernel
theorem dX5_join_9 : decode cX5_join 9 = .ok (.lstore 4, 2) := by decide +kernel
theorem dX5_join_11 : decode cX5_join 11 = .ok (.iload_n 1, 1) := by decide +kernel
theorem dX5_join_12 : decode cX5_join 12 = .ok (.tableswitch 82 42 47 #[62, 40, 82, 51, 82, 72], 40) := by decide +kernel
theorem dX5_join_52 : decode cX5_join 52 = .ok (.aload_n 0, 1) := by decide +kernel
theorem dX5_join_53 : decode cX5_join 53 = .ok (.lload 4, 2) := by decide +kernel
theorem dX5_join_55 : decode cX5_join 55 = .ok (.lload_n 2, 1) := by decide +kernel
theorem dX5_join_56 : decode cX5_join 56 = .ok (.ladd, 1) := by decide +kernel
theorem dX5_join_57 : decode cX5_join 57 = .ok (.invokevirtual 45, 3) := by decide +kernel
theorem dX5_join_60 : decode cX5_join 60 = .ok (.goto 44, 3) := by decide +kernel
theorem dX5_join_63 : decode cX5_join 63 = .ok (.aload_n 0, 1) := by decide +kernel
theorem dX5_join_64 : decode cX5_join 64 = .ok (.lload 4, 2) := by decide +kernel
theorem dX5_join_66 : decode cX5_join 66 = .ok (.lload_n 2, 1) := by decide +kernel
theorem dX5_join_67 : decode cX5_join 67 = .ok (.lsub, 1) := by decide +kernel
theorem dX5_join_68 : decode cX5_join 68 = .ok (.invokevirtual 45, 3) := by decide +kernel
theorem dX5_join_71 : decode cX5_join 71 = .ok (.goto 33, 3) := by decide +kernel
theorem dX5_join_74 : decode cX5_join 74 = .ok (.aload_n 0, 1) := by decide +kernel
theorem dX5_join_75 : decode cX5_join 75 = .ok (.lload 4, 2) := by decide +kernel
theorem dX5_join_77 : decode cX5_join 77 = .ok (.lload_n 2, 1) := by decide +kernel
theorem dX5_join_78 : decode cX5_join 78 = .ok (.invokevirtual 86, 3) := by decide +kernel
theorem dX5_join_81 : decode cX5_join 81 = .ok (.goto 23, 3) := by decide +kernel
theorem dX5_join_84 : decode cX5_join 84 = .ok (.aload_n 0, 1) := by decide +kernel
theorem dX5_join_85 : decode cX5_join 85 = .ok (.lload 4, 2) := by decide +kernel
theorem dX5_join_87 : decode cX5_join 87 = .ok (.lload_n 2, 1) := by decide +kernel
theorem dX5_join_88 : decode cX5_join 88 = .ok (.invokevirtual 90, 3) := by decide +kernel
theorem dX5_join_91 : decode cX5_join 91 = .ok (.goto 13, 3) := by decide +kernel
theorem dX5_join_94 : decode cX5_join 94 = .ok (.aload_n 0, 1) := by decide +kernel
theorem dX5_join_95 : decode cX5_join 95 = .ok (.lload 4, 2) := by decide +kernel
theorem dX5_join_97 : decode cX5_join 97 = .ok (.lload_n 2, 1) := by decide +kernel
theorem dX5_join_98 : decode cX5_join 98 = .ok (.invokestatic 93, 3) := by decide +kernel
theorem dX5_join_101 : decode cX5_join 101 = .ok (.invokevirtual 45, 3) := by decide +kernel
theorem dX5_join_104 : decode cX5_join 104 = .ok (.return_, 1) := by decide +kernel
theorem dX5_multiply_0 : decode cX5_multiply 0 = .ok (.lload_n 1, 1) := by decide +kernel
theorem dX5_multiply_1 : decode cX5_multiply 1 = .ok (.lconst 0, 1) := by decide +kernel
theorem dX5_multiply_2 : decode cX5_multiply 2 = .ok (.lcmp, 1) := by decide +kernel
theorem dX5_multiply_3 : decode cX5_multiply 3 = .ok (.ifCond .eq 27, 3) := by decide +kernel
theorem dX5_multiply_6 : decode cX5_multiply 6 = .ok (.lload_n 3, 1) := by decide +kernel
theorem dX5_multiply_7 : decode cX5_multiply 7 = .ok (.invokestatic 99, 3) := by decide +kernel
theorem dX5_multiply_10 : decode cX5_multiply 10 = .ok (.ldc2_w 65, 3) := by decide +kernel
theorem dX5_multiply_13 : decode cX5_multiply 13 = .ok (.lload_n 1, 1) := by decide +kernel
theorem dX5_multiply_14 : decode cX5_multiply 14 = .ok (.invokestatic 99, 3) := by decide +kernel
theorem dX5_multiply_17 : decode cX5_multiply 17 = .ok (.ldiv, 1) := by decide +kernel
theorem dX5_multiply_18 : decode cX5_multiply 18 = .ok (.lcmp, 1) := by decide +kernel
theorem dX5_multiply_19 : decode cX5_multiply 19 = .ok (.ifCond .le 11, 3) := by decide +kernel
theorem dX5_multiply_22 : decode cX5_multiply 22 = .ok (.aload_n 0, 1) := by decide +kernel
theorem dX5_multiply_23 : decode cX5_multiply 23 = .ok (.iconst 3, 1) := by decide +kernel
theorem dX5_multiply_24 : decode cX5_multiply 24 = .ok (.putfield 15, 3) := by decide +kernel
theorem dX5_multiply_27 : decode cX5_multiply 27 = .ok (.goto 10, 3) := by decide +kernel
theorem dX5_multiply_30 : decode cX5_multiply 30 = .ok (.aload_n 0, 1) := by decide +kernel
theorem dX5_multiply_31 : decode cX5_multiply 31 = .ok (.lload_n 1, 1) := by decide +kernel
theorem dX5_multiply_32 : decode cX5_multiply 32 = .ok (.lload_n 3, 1) := by decide +kernel
theorem dX5_multiply_33 : decode cX5_multiply 33 = .ok (.lmul, 1) := by decide +kernel
theorem dX5_multiply_34 : decode cX5_multiply 34 = .ok (.invokevirtual 45, 3) := by decide +kernel
theorem dX5_multiply_37 : decode cX5_multiply 37 = .ok (.return_, 1) := by decide +kernel
theorem dX5_divide_0 : decode cX5_divide 0 = .ok (.lload_n 3, 1) := by decide +kernel
theorem dX5_divide_1 : decode cX5_divide 1 = .ok (.lconst 0, 1) := by decide +kernel
theorem dX5_divide_2 : decode cX5_divide 2 = .ok (.lcmp, 1) := by decide +kernel
theorem dX5_divide_3 : decode cX5_divide 3 = .ok (.ifCond .ne 11, 3) := by decide +kernel
theorem dX5_divide_6 : decode cX5_divide 6 = .ok (.aload_n 0, 1) := by decide +kernel
theorem dX5_divide_7 : decode cX5_divide 7 = .ok (.iconst 2, 1) := by decide +kernel
theorem dX5_divide_8 : decode cX5_divide 8 = .ok (.putfield 15, 3) := by decide +kernel
theorem dX5_divide_11 : decode cX5_divide 11 = .ok (.goto 12, 3) := by decide +kernel
theorem dX5_divide_14 : decode cX5_divide 14 = .ok (.aload_n 0, 1) := by decide +kernel
theorem dX5_divide_15 : decode cX5_divide 15 = .ok (.lload_n 1, 1) := by decide +kernel
theorem dX5_divide_16 : decode cX5_divide 16 = .ok (.lload_n 3, 1) := by decide +kernel
theorem dX5_divide_17 : decode cX5_divide 17 = .ok (.invokestatic 103, 3) := by decide +kernel
theorem dX5_divide_20 : decode cX5_divide 20 = .ok (.invokevirtual 45, 3) := by decide +kernel
theorem dX5_divide_23 : decode cX5_divide 23 = .ok (.return_, 1) := by decide +kernel
theorem dX6_init_0 : decode cX6_init 0 = .ok (.aload_n 0, 1) := by decide +kernel
theorem dX6_init_1 : decode cX6_init 1 = .ok (.invokespecial 3, 3) := by decide +kernel
theorem dX6_init_4 : decode cX6_init 4 = .ok (.aload_n 0, 1) := by decide +kernel
theorem dX6_init_5 : decode cX6_init 5 = .ok (.aload_n 1, 1) := by decide +kernel
theorem dX6_init_6 : decode cX6_init 6 = .ok (.putfield 9, 3) := by decide +kernel
theorem dX6_init_9 : decode cX6_init 9 = .ok (.return_, 1) := by decide +kernel
theorem dX6_parse_0 : decode cX6_parse 0 = .ok (.aload_n 0, 1) := by decide +kernel
theorem dX6_parse_1 : decode cX6_parse 1 = .ok (.bipush 61, 2) := by decide +kernel
theorem dX6_parse_3 : decode cX6_parse 3 = .ok (.invokevirtual 15, 3) := by decide +kernel
theorem dX6_parse_6 : decode cX6_parse 6 = .ok (.aload_n 0, 1) := by decide +kernel
theorem dX6_parse_7 : decode cX6_parse 7 = .ok (.iconst 0, 1) := by decide +kernel
theorem dX6_parse_8 : decode cX6_parse 8 = .ok (.invokevirtual 19, 3) := by decide +kernel
theorem dX6_parse_11 : decode cX6_parse 11 = .ok (.aload_n 0, 1) := by decide +kernel
theorem dX6_parse_12 : decode cX6_parse 12 = .ok (.getfield 22, 3) := by decide +kernel
theorem dX6_parse_15 : decode cX6_parse 15 = .ok (.aload_n 0, 1) := by decide +kernel
theorem dX6_parse_16 : decode cX6_parse 16 = .ok (.getfield 9, 3) := by decide +kernel
theorem dX6_parse_19 : decode cX6_parse 19 = .ok (.invokevirtual 26, 3) := by decide +kernel
theorem dX6_parse_22 : decode cX6_parse 22 = .ok (.if_icmp .ge 8, 3) := by decide +kernel
theorem dX6_parse_25 : decode cX6_parse 25 = .ok (.aload_n 0, 1) := by decide +kernel
theorem dX6_parse_26 : decode cX6_parse 26 = .ok (.iconst 1, 1) := by decide +kernel
theorem dX6_parse_27 : decode cX6_parse 27 = .ok (.invokevirtual 32, 3) := by decide +kernel
theorem dX6_parse_30 : decode cX6_parse 30 = .ok (.aload_n 0, 1) := by decide +kernel
theorem dX6_parse_31 : decode cX6_parse 31 = .ok (.getfield 35, 3) := by decide +kernel
theorem dX6_parse_34 : decode cX6_parse 34 = .ok (.ireturn, 1) := by decide +kernel
theorem dX6_next_0 : decode cX6_next 0 = .ok (.aload_n 0, 1) := by decide +kernel
theorem dX6_next_1 : decode cX6_next 1 = .ok (.getfield 35, 3) := by decide +kernel
theorem dX6_next_4 : decode cX6_next 4 = .ok (.ifCond .ne 17, 3) := by decide +kernel
theorem dX6_next_7 : decode cX6_next 7 = .ok (.aload_n 0, 1) := by decide +kernel
theorem dX6_next_8 : decode cX6_next 8 = .ok (.getfield 9, 3) := by decide +kernel
theorem dX6_next_11 : decode cX6_next 11 = .ok (.aload_n 0, 1) := by decide +kernel
theorem dX6_next_12 : decode cX6_next 12 = .ok (.getfield 22, 3) := by decide +kernel
theorem dX6_next_15 : decode cX6_next 15 = .ok (.invokevirtual 38, 3) := by decide +kernel
theorem dX6_next_18 : decode cX6_next 18 = .ok (.goto 4, 3) := by decide +kernel
theorem dX6_next_21 : decode cX6_next 21 = .ok (.iconst (-1), 1) := by decide +kernel
theorem dX6_next_22 : decode cX6_next 22 = .ok (.ireturn, 1) := by decide +kernel
theorem dX6_fail_0 : decode cX6_fail 0 = .ok (.aload_n 0, 1) := by decide +kernel
theorem dX6_fail_1 : decode cX6_fail 1 = .ok (.getfield 35, 3) := by decide +kernel
theorem dX6_fail_4 : decode cX6_fail 4 = .ok (.ifCond .ne 16, 3) := by decide +kernel
theorem dX6_fail_7 : decode cX6_fail 7 = .ok (.aload_n 0, 1) := by decide +kernel
theorem dX6_fail_8 : decode cX6_fail 8 = .ok (.bipush 100, 2) := by decide +kernel
theorem dX6_fail_10 : decode cX6_fail 10 = .ok (.iload_n 1, 1) := by decide +kernel
theorem dX6_fail_11 : decode cX6_fail 11 = .ok (.imul, 1) := by decide +kernel
theorem dX6_fail_12 : decode cX6_fail 12 = .ok (.aload_n 0, 1) := by decide +kernel
theorem dX6_fail_13 : decode cX6_fail 13 = .ok (.getfield 22, 3) := by decide +kernel
theorem dX6_fail_16 : decode cX6_fail 16 = .ok (.iadd, 1) := by decide +kernel
theorem dX6_fail_17 : decode cX6_fail 17 = .ok (.putfield 35, 3) := by decide +kernel
theorem dX6_fail_20 : decode cX6_fail 20 = .ok (.return_, 1) := by decide +kernel
theorem dX6_pass_0 : decode cX6_pass 0 = .ok (.aload_n 0, 1) := by decide +kernel
theorem dX6_pass_1 : decode cX6_pass 1 = .ok (.iload_n 1, 1) := by decide +kernel
theorem dX6_pass_2 : decode cX6_pass 2 = .ok (.iload_n 1, 1) := by decide +kernel
theorem dX6_pass_3 : decode cX6_pass 3 = .ok (.invokevirtual 42, 3) := by decide +kernel
theorem dX6_pass_6 : decode cX6_pass 6 = .ok (.pop, 1) := by decide +kernel
theorem dX6_pass_7 : decode cX6_pass 7 = .ok (.return_, 1) := by decide +kernel
theorem dX6_passWithin_0 : decode cX6_passWithin 0 = .ok (.aload_n 0, 1) := by decide +kernel
theorem dX6_passWithin_1 : decode cX6_passWithin 1 = .ok (.invokevirtual 46, 3) := by decide +kernel
theorem dX6_passWithin_4 : decode cX6_passWithin 4 = .ok (.istore_n 3, 1) := by decide +kernel
theorem dX6_passWithin_5 : decode cX6_passWithin 5 = .ok (.iload_n 3, 1) := by decide +kernel
theorem dX6_passWithin_6 : decode cX6_passWithin 6 = .ok (.iload_n 1, 1) := by decide +kernel
theorem dX6_passWithin_7 : decode cX6_passWithin 7 = .ok (.if_icmp .lt 8, 3) := by decide +kernel
theorem dX6_passWithin_10 : decode cX6_passWithin 10 = .ok (.iload_n 3, 1) := by decide +kernel
theorem dX6_passWithin_11 : decode cX6_passWithin 11 = .ok (.iload_n 2, 1) := by decide +kernel
theorem dX6_passWithin_12 : decode cX6_passWithin 12 = .ok (.if_icmp .le 10, 3) := by decide +kernel
theorem dX6_passWithin_15 : decode cX6_passWithin 15 = .ok (.aload_n 0, 1) := by decide +kernel
theorem dX6_passWithin_16 : decode cX6_passWithin 16 = .ok (.iconst 1, 1) := by decide +kernel
theorem dX6_passWithin_17 : decode cX6_passWithin 17 = .ok (.invokevirtual 32, 3) := by decide +kernel
theorem dX6_passWithin_20 : decode cX6_passWithin 20 = .ok (.iload_n 1, 1) := by decide +kernel
theorem dX6_passWithin_21 : decode cX6_passWithin 21 = .ok (.ireturn, 1) := by decide +kernel
theorem dX6_passWithin_22 : decode cX6_passWithin 22 = .ok (.aload_n 0, 1) := by decide +kernel
theorem dX6_passWithin_23 : decode cX6_passWithin 23 = .ok (.dup, 1) := by decide +kernel
theorem dX6_passWithin_24 : decode cX6_passWithin 24 = .ok (.getfield 22, 3) := by decide +kernel
theorem dX6_passWithin_27 : decode cX6_passWithin 27 = .ok (.iconst 1, 1) := by decide +kernel
theorem dX6_passWithin_28 : decode cX6_passWithin 28 = .ok (.iadd, 1) := by decide +kernel
theorem dX6_passWithin_29 : decode cX6_passWithin 29 = .ok (.putfield 22, 3) := by decide +kernel
theorem dX6_passWithin_32 : decode cX6_passWithin 32 = .ok (.iload_n 3, 1) := by decide +kernel
theorem dX6_passWithin_33 : decode cX6_passWithin 33 = .ok (.ireturn, 1) := by decide +kernel
theorem dX6_readSum_0 : decode cX6_readSum 0 = .ok (.aload_n 0, 1) := by decide +kernel
theorem dX6_readSum_1 : decode cX6_readSum 1 = .ok (.iload_n 1, 1) := by decide +kernel
theorem dX6_readSum_2 : decode cX6_readSum 2 = .ok (.invokevirtual 49, 3) := by decide +kernel
theorem dX6_readSum_5 : decode cX6_readSum 5 = .ok (.iconst 0, 1) := by decide +kernel
theorem dX6_readSum_6 : decode cX6_readSum 6 = .ok (.istore_n 2, 1) := by decide +kernel
theorem dX6_readSum_7 : decode cX6_readSum 7 = .ok (.iload_n 2, 1) := by decide +kernel
theorem dX6_readSum_8 : decode cX6_readSum 8 = .ok (.bipush 40, 2) := by decide +kernel
theorem dX6_readSum_10 : decode cX6_readSum 10 = .ok (.if_icmp .ge 64, 3) := by decide +kernel
theorem dX6_readSum_13 : decode cX6_readSum 13 = .ok (.aload_n 0, 1) := by decide +kernel
theorem dX6_readSum_14 : decode cX6_readSum 14 = .ok (.invokevirtual 46, 3) := by decide +kernel
theorem dX6_readSum_17 : decode cX6_readSum 17 = .ok (.bipush 43, 2) := by decide +kernel
theorem dX6_readSum_19 : decode cX6_readSum 19 = .ok (.if_icmp .eq 12, 3) := by decide +kernel
theorem dX6_readSum_22 : decode cX6_readSum 22 = .ok (.aload_n 0, 1) := by decide +kernel
theorem dX6_readSum_23 : decode cX6_readSum 23 = .ok (.invokevirtual 46, 3) := by decide +kernel
theorem dX6_readSum_26 : decode cX6_readSum 26 = .ok (.bipush 45, 2) := by decide +kernel
theorem dX6_readSum_28 : decode cX6_readSum 28 = .ok (.if_icmp .ne 46, 3) := by decide +kernel
theorem dX6_readSum_31 : decode cX6_readSum 31 = .ok (.aload_n 0, 1) := by decide +kernel
theorem dX6_readSum_32 : decode cX6_readSum 32 = .ok (.getfield 22, 3) := by decide +kernel
theorem dX6_readSum_35 : decode cX6_readSum 35 = .ok (.istore_n 3, 1) := by decide +kernel
theorem dX6_readSum_36 : decode cX6_readSum 36 = .ok (.aload_n 0, 1) := by decide +kernel
theorem dX6_readSum_37 : decode cX6_readSum 37 = .ok (.invokevirtual 46, 3) := by decide +kernel
theorem dX6_readSum_40 : decode cX6_readSum 40 = .ok (.istore 4, 2) := by decide +kernel
theorem dX6_readSum_42 : decode cX6_readSum 42 = .ok (.aload_n 0, 1) := by decide +kernel
theorem dX6_readSum_43 : decode cX6_readSum 43 = .ok (.dup, 1) := by decide +kernel
theorem dX6_readSum_44 : decode cX6_readSum 44 = .ok (.getfield 22, 3) := by decide +kernel
theorem dX6_readSum_47 : decode cX6_readSum 47 = .ok (.iconst 1, 1) := by decide +kernel
theorem dX6_readSum_48 : decode cX6_readSum 48 = .ok (.iadd, 1) := by decide +kernel
theorem dX6_readSum_49 : decode cX6_readSum 49 = .ok (.putfield 22, 3) := by decide +kernel
theorem dX6_readSum_52 : decode cX6_readSum 52 = .ok (.aload_n 0, 1) := by decide +kernel
theorem dX6_readSum_53 : decode cX6_readSum 53 = .ok (.iload_n 1, 1) := by decide +kernel
theorem dX6_readSum_54 : decode cX6_readSum 54 = .ok (.invokevirtual 49, 3) := by decide +kernel
theorem dX6_readSum_57 : decode cX6_readSum 57 = .ok (.aload_n 0, 1) := by decide +kernel
theorem dX6_readSum_58 : decode cX6_readSum 58 = .ok (.getfield 9, 3) := by decide +kernel
theorem dX6_readSum_61 : decode cX6_readSum 61 = .ok (.iload_n 3, 1) := by decide +kernel
theorem dX6_readSum_62 : decode cX6_readSum 62 = .ok (.iload 4, 2) := by decide +kernel
theorem dX6_readSum_64 : decode cX6_readSum 64 = .ok (.iconst 0, 1) := by decide +kernel
theorem dX6_readSum_65 : decode cX6_readSum 65 = .ok (.invokevirtual 52, 3) := by decide +kernel
theorem dX6_readSum_68 : decode cX6_readSum 68 = .ok (.iinc 2 1, 3) := by decide +kernel
theorem dX6_readSum_71 : decode cX6_readSum 71 = .ok (.goto (-64), 3) := by decide +kernel
theorem dX6_readSum_74 : decode cX6_readSum 74 = .ok (.return_, 1) := by decide +kernel
theorem dX6_readProduct_0 : decode cX6_readProduct 0 = .ok (.aload_n 0, 1) := by decide +kernel
theorem dX6_readProduct_1 : decode cX6_readProduct 1 = .ok (.iload_n 1, 1) := by decide +kernel
theorem dX6_readProduct_2 : decode cX6_readProduct 2 = .ok (.invokevirtual 56, 3) := by decide +kernel
theorem dX6_readProduct_5 : decode cX6_readProduct 5 = .ok (.iconst 0, 1) := by decide +kernel
theorem dX6_readProduct_6 : decode cX6_readProduct 6 = .ok (.istore_n 2, 1) := by decide +kernel
theorem dX6_readProduct_7 : decode cX6_readProduct 7 = .ok (.iload_n 2, 1) := by decide +kernel
theorem dX6_readProduct_8 : decode cX6_readProduct 8 = .ok (.bipush 40, 2) := by decide +kernel
theorem dX6_readProduct_10 : decode cX6_readProduct 10 = .ok (.if_icmp .ge 64, 3) := by decide +kernel
theorem dX6_readProduct_13 : decode cX6_readProduct 13 = .ok (.aload_n 0, 1) := by decide +kernel
theorem dX6_readProduct_14 : decode cX6_readProduct 14 = .ok (.invokevirtual 46, 3) := by decide +kernel
theorem dX6_readProduct_17 : decode cX6_readProduct 17 = .ok (.bipush 42, 2) := by decide +kernel
theorem dX6_readProduct_19 : decode cX6_readProduct 19 = .ok (.if_icmp .eq 12, 3) := by decide +kernel
theorem dX6_readProduct_22 : decode cX6_readProduct 22 = .ok (.aload_n 0, 1) := by decide +kernel
theorem dX6_readProduct_23 : decode cX6_readProduct 23 = .ok (.invokevirtual 46, 3) := by decide +kernel
theorem dX6_readProduct_26 : decode cX6_readProduct 26 = .ok (.bipush 47, 2) := by decide +kernel
theorem dX6_readProduct_28 : decode cX6_readProduct 28 = .ok (.if_icmp .ne 46, 3) := by decide +kernel
theorem dX6_readProduct_31 : decode cX6_readProduct 31 = .ok (.aload_n 0, 1) := by decide +kernel
theorem dX6_readProduct_32 : decode cX6_readProduct 32 = .ok (.getfield 22, 3) := by decide +kernel
theorem dX6_readProduct_35 : decode cX6_readProduct 35 = .ok (.istore_n 3, 1) := by decide +kernel
theorem dX6_readProduct_36 : decode cX6_readProduct 36 = .ok (.aload_n 0, 1) := by decide +kernel
theorem dX6_readProduct_37 : decode cX6_readProduct 37 = .ok (.invokevirtual 46, 3) := by decide +kernel
theorem dX6_readProduct_40 : decode cX6_readProduct 40 = .ok (.istore 4, 2) := by decide +kernel
theorem dX6_readProduct_42 : decode cX6_readProduct 42 = .ok (.aload_n 0, 1) := by decide +kernel
theorem dX6_readProduct_43 : decode cX6_readProduct 43 = .ok (.dup, 1) := by decide +kernel
theorem dX6_readProduct_44 : decode cX6_readProduct 44 = .ok (.getfield 22, 3) := by decide +kernel
theorem dX6_readProduct_47 : decode cX6_readProduct 47 = .ok (.iconst 1, 1) := by decide +kernel
theorem dX6_readProduct_48 : decode cX6_readProduct 48 = .ok (.iadd, 1) := by decide +kernel
theorem dX6_readProduct_49 : decode cX6_readProduct 49 = .ok (.putfield 22, 3) := by decide +kernel
theorem dX6_readProduct_52 : decode cX6_readProduct 52 = .ok (.aload_n 0, 1) := by decide +kernel
theorem dX6_readProduct_53 : decode cX6_readProduct 53 = .ok (.iload_n 1, 1) := by decide +kernel
theorem dX6_readProduct_54 : decode cX6_readProduct 54 = .ok (.invokevirtual 56, 3) := by decide +kernel
theorem dX6_readProduct_57 : decode cX6_readProduct 57 = .ok (.aload_n 0, 1) := by decide +kernel
theorem dX6_readProduct_58 : decode cX6_readProduct 58 = .ok (.getfield 9, 3) := by decide +kernel
theorem dX6_readProduct_61 : decode cX6_readProduct 61 = .ok (.iload_n 3, 1) := by decide +kernel
theorem dX6_readProduct_62 : decode cX6_readProduct 62 = .ok (.iload 4, 2) := by decide +kernel
theorem dX6_readProduct_64 : decode cX6_readProduct 64 = .ok (.iconst 0, 1) := by decide +kernel
theorem dX6_readProduct_65 : decode cX6_readProduct 65 = .ok (.invokevirtual 52, 3) := by decide +kernel
theorem dX6_readProduct_68 : decode cX6_readProduct 68 = .ok (.iinc 2 1, 3) := by decide +kernel
theorem dX6_readProduct_71 : decode cX6_readProduct 71 = .ok (.goto (-64), 3) := by decide +kernel
theorem dX6_readProduct_74 : decode cX6_readProduct 74 = .ok (.return_, 1) := by decide +kernel
theorem dX6_readFactor_0 : decode cX6_readFactor 0 = .ok (.aload_n 0, 1) := by decide +kernel
theorem dX6_readFactor_1 : decode cX6_readFactor 1 = .ok (.invokevirtual 46, 3) := by decide +kernel
theorem dX6_readFactor_4 : decode cX6_readFactor 4 = .ok (.istore_n 2, 1) := by decide +kernel
theorem dX6_readFactor_5 : decode cX6_readFactor 5 = .ok (.iload_n 1, 1) := by decide +kernel
theorem dX6_readFactor_6 : decode cX6_readFactor 6 = .ok (.bipush 6, 2) := by decide +kernel
theorem dX6_readFactor_8 : decode cX6_readFactor 8 = .ok (.if_icmp .lt 35, 3) := by decide +kernel
theorem dX6_readFactor_11 : decode cX6_readFactor 11 = .ok (.iload_n 2, 1) := by decide +kernel
theorem dX6_readFactor_12 : decode cX6_readFactor 12 = .ok (.bipush 45, 2) := by decide +kernel
theorem dX6_readFactor_14 : decode cX6_readFactor 14 = .ok (.if_icmp .eq 21, 3) := by decide +kernel
theorem dX6_readFactor_17 : decode cX6_readFactor 17 = .ok (.iload_n 2, 1) := by decide +kernel
theorem dX6_readFactor_18 : decode cX6_readFactor 18 = .ok (.bipush 40, 2) := by decide +kernel
theorem dX6_readFactor_20 : decode cX6_readFactor 20 = .ok (.if_icmp .eq 15, 3) := by decide +kernel
theorem dX6_readFactor_23 : decode cX6_readFactor 23 = .ok (.iload_n 2, 1) := by decide +kernel
theorem dX6_readFactor_24 : decode cX6_readFactor 24 = .ok (.bipush 83, 2) := by decide +kernel
theorem dX6_readFactor_26 : decode cX6_readFactor 26 = .ok (.if_icmp .eq 9, 3) := by decide +kernel
theorem dX6_readFactor_29 : decode cX6_readFactor 29 = .ok (.iload_n 2, 1) := by decide +kernel
theorem dX6_readFactor_30 : decode cX6_readFactor 30 = .ok (.bipush 77, 2) := by decide +kernel
theorem dX6_readFactor_32 : decode cX6_readFactor 32 = .ok (.if_icmp .ne 11, 3) := by decide +kernel
theorem dX6_readFactor_35 : decode cX6_readFactor 35 = .ok (.aload_n 0, 1) := by decide +kernel
theorem dX6_readFactor_36 : decode cX6_readFactor 36 = .ok (.iconst 2, 1) := by decide +kernel
theorem dX6_readFactor_37 : decode cX6_readFactor 37 = .ok (.invokevirtual 32, 3) := by decide +kernel
theorem dX6_readFactor_40 : decode cX6_readFactor 40 = .ok (.goto 95, 3) := by decide +kernel
theorem dX6_readFactor_43 : decode cX6_readFactor 43 = .ok (.iload_n 2, 1) := by decide +kernel
theorem dX6_readFactor_44 : decode cX6_readFactor 44 = .ok (.bipush 45, 2) := by decide +kernel
theorem dX6_readFactor_46 : decode cX6_readFactor 46 = .ok (.if_icmp .ne 13, 3) := by decide +kernel
theorem dX6_readFactor_49 : decode cX6_readFactor 49 = .ok (.aload_n 0, 1) := by decide +kernel
theorem dX6_readFactor_50 : decode cX6_readFactor 50 = .ok (.iload_n 1, 1) := by decide +kernel
theorem dX6_readFactor_51 : decode cX6_readFactor 51 = .ok (.iconst 1, 1) := by decide +kernel
theorem dX6_readFactor_52 : decode cX6_readFactor 52 = .ok (.iadd, 1) := by decide +kernel
theorem dX6_readFactor_53 : decode cX6_readFactor 53 = .ok (.invokevirtual 59, 3) := by decide +kernel
theorem dX6_readFactor_56 : decode cX6_readFactor 56 = .ok (.goto 79, 3) := by decide +kernel
theorem dX6_readFactor_59 : decode cX6_readFactor 59 = .ok (.iload_n 2, 1) := by decide +kernel
theorem dX6_readFactor_60 : decode cX6_readFactor 60 = .ok (.bipush 40, 2) := by decide +kernel
theorem dX6_readFactor_62 : decode cX6_readFactor 62 = .ok (.if_icmp .ne 25, 3) := by decide +kernel
theorem dX6_readFactor_65 : decode cX6_readFactor 65 = .ok (.aload_n 0, 1) := by decide +kernel
theorem dX6_readFactor_66 : decode cX6_readFactor 66 = .ok (.bipush 40, 2) := by decide +kernel
theorem dX6_readFactor_68 : decode cX6_readFactor 68 = .ok (.invokevirtual 15, 3) := by decide +kernel
theorem dX6_readFactor_71 : decode cX6_readFactor 71 = .ok (.aload_n 0, 1) := by decide +kernel
theorem dX6_readFactor_72 : decode cX6_readFactor 72 = .ok (.iload_n 1, 1) := by decide +kernel
theorem dX6_readFactor_73 : decode cX6_readFactor 73 = .ok (.iconst 1, 1) := by decide +kernel
theorem dX6_readFactor_74 : decode cX6_readFactor 74 = .ok (.iadd, 1) := by decide +kernel
theorem dX6_readFactor_75 : decode cX6_readFactor 75 = .ok (.invokevirtual 19, 3) := by decide +kernel
theorem dX6_readFactor_78 : decode cX6_readFactor 78 = .ok (.aload_n 0, 1) := by decide +kernel
theorem dX6_readFactor_79 : decode cX6_readFactor 79 = .ok (.bipush 41, 2) := by decide +kernel
theorem dX6_readFactor_81 : decode cX6_readFactor 81 = .ok (.invokevirtual 15, 3) := by decide +kernel
theorem dX6_readFactor_84 : decode cX6_readFactor 84 = .ok (.goto 51, 3) := by decide +kernel
theorem dX6_readFactor_87 : decode cX6_readFactor 87 = .ok (.iload_n 2, 1) := by decide +kernel
theorem dX6_readFactor_88 : decode cX6_readFactor 88 = .ok (.bipush 83, 2) := by decide +kernel
theorem dX6_readFactor_90 : decode cX6_readFactor 90 = .ok (.if_icmp .ne 10, 3) := by decide +kernel
theorem dX6_readFactor_93 : decode cX6_readFactor 93 = .ok (.aload_n 0, 1) := by decide +kernel
theorem dX6_readFactor_94 : decode cX6_readFactor 94 = .ok (.invokevirtual 62, 3) := by decide +kernel
theorem dX6_readFactor_97 : decode cX6_readFactor 97 = .ok (.goto 38, 3) := by decide +kernel
theorem dX6_readFactor_100 : decode cX6_readFactor 100 = .ok (.iload_n 2, 1) := by decide +kernel
theorem dX6_readFactor_101 : decode cX6_readFactor 101 = .ok (.bipush 77, 2) := by decide +kernel
theorem dX6_readFactor_103 : decode cX6_readFactor 103 = .ok (.if_icmp .ne 13, 3) := by decide +kernel
theorem dX6_readFactor_106 : decode cX6_readFactor 106 = .ok (.aload_n 0, 1) := by decide +kernel
theorem dX6_readFactor_107 : decode cX6_readFactor 107 = .ok (.iload_n 1, 1) := by decide +kernel
theorem dX6_readFactor_108 : decode cX6_readFactor 108 = .ok (.iconst 1, 1) := by decide +kernel
theorem dX6_readFactor_109 : decode cX6_readFactor 109 = .ok (.iadd, 1) := by decide +kernel
theorem dX6_readFactor_110 : decode cX6_readFactor 110 = .ok (.invokevirtual 65, 3) := by decide +kernel
theorem dX6_readFactor_113 : decode cX6_readFactor 113 = .ok (.goto 22, 3) := by decide +kernel
theorem dX6_readFactor_116 : decode cX6_readFactor 116 = .ok (.iload_n 2, 1) := by decide +kernel
theorem dX6_readFactor_117 : decode cX6_readFactor 117 = .ok (.invokestatic 68, 3) := by decide +kernel
theorem dX6_readFactor_120 : decode cX6_readFactor 120 = .ok (.ifCond .eq 10, 3) := by decide +kernel
theorem dX6_readFactor_123 : decode cX6_readFactor 123 = .ok (.aload_n 0, 1) := by decide +kernel
theorem dX6_readFactor_124 : decode cX6_readFactor 124 = .ok (.invokevirtual 72, 3) := by decide +kernel
theorem dX6_readFactor_127 : decode cX6_readFactor 127 = .ok (.goto 8, 3) := by decide +kernel
theorem dX6_readFactor_130 : decode cX6_readFactor 130 = .ok (.aload_n 0, 1) := by decide +kernel
theorem dX6_readFactor_131 : decode cX6_readFactor 131 = .ok (.iconst 2, 1) := by decide +kernel
theorem dX6_readFactor_132 : decode cX6_readFactor 132 = .ok (.invokevirtual 75, 3) := by decide +kernel
theorem dX6_readFactor_135 : decode cX6_readFactor 135 = .ok (.return_, 1) := by decide +kernel
theorem dX6_readNegative_0 : decode cX6_readNegative 0 = .ok (.aload_n 0, 1) := by decide +kernel
theorem dX6_readNegative_1 : decode cX6_readNegative 1 = .ok (.getfield 22, 3) := by decide +kernel
theorem dX6_readNegative_4 : decode cX6_readNegative 4 = .ok (.istore_n 2, 1) := by decide +kernel
theorem dX6_readNegative_5 : decode cX6_readNegative 5 = .ok (.aload_n 0, 1) := by decide +kernel
theorem dX6_readNegative_6 : decode cX6_readNegative 6 = .ok (.bipush 45, 2) := by decide +kernel
theorem dX6_readNegative_8 : decode cX6_readNegative 8 = .ok (.invokevirtual 15, 3) := by decide +kernel
theorem dX6_readNegative_11 : decode cX6_readNegative 11 = .ok (.aload_n 0, 1) := by decide +kernel
theorem dX6_readNegative_12 : decode cX6_readNegative 12 = .ok (.iload_n 1, 1) := by decide +kernel
theorem dX6_readNegative_13 : decode cX6_readNegative 13 = .ok (.invokevirtual 56, 3) := by decide +kernel
theorem dX6_readNegative_16 : decode cX6_readNegative 16 = .ok (.aload_n 0, 1) := by decide +kernel
theorem dX6_readNegative_17 : decode cX6_readNegative 17 = .ok (.getfield 9, 3) := by decide +kernel
theorem dX6_readNegative_20 : decode cX6_readNegative 20 = .ok (.iload_n 2, 1) := by decide +kernel
theorem dX6_readNegative_21 : decode cX6_readNegative 21 = .ok (.iconst 4, 1) := by decide +kernel
theorem dX6_readNegative_22 : decode cX6_readNegative 22 = .ok (.iconst 0, 1) := by decide +kernel
theorem dX6_readNegative_23 : decode cX6_readNegative 23 = .ok (.invokevirtual 52, 3) := by decide +kernel
theorem dX6_readNegative_26 : decode cX6_readNegative 26 = .ok (.return_, 1) := by decide +kernel
theorem dX6_readGreater_0 : decode cX6_readGreater 0 = .ok (.aload_n 0, 1) := by decide +kernel
theorem dX6_readGreater_1 : decode cX6_readGreater 1 = .ok (.getfield 22, 3) := by decide +kernel
theorem dX6_readGreater_4 : decode cX6_readGreater 4 = .ok (.istore_n 2, 1) := by decide +kernel
theorem dX6_readGreater_5 : decode cX6_readGreater 5 = .ok (.aload_n 0, 1) := by decide +kernel
theorem dX6_readGreater_6 : decode cX6_readGreater 6 = .ok (.bipush 77, 2) := by decide +kernel
theorem dX6_readGreater_8 : decode cX6_readGreater 8 = .ok (.invokevirtual 15, 3) := by decide +kernel
theorem dX6_readGreater_11 : decode cX6_readGreater 11 = .ok (.aload_n 0, 1) := by decide +kernel
theorem dX6_readGreater_12 : decode cX6_readGreater 12 = .ok (.bipush 40, 2) := by decide +kernel
theorem dX6_readGreater_14 : decode cX6_readGreater 14 = .ok (.invokevirtual 15, 3) := by decide +kernel
theorem dX6_readGreater_17 : decode cX6_readGreater 17 = .ok (.aload_n 0, 1) := by decide +kernel
theorem dX6_readGreater_18 : decode cX6_readGreater 18 = .ok (.iload_n 1, 1) := by decide +kernel
theorem dX6_readGreater_19 : decode cX6_readGreater 19 = .ok (.invokevirtual 19, 3) := by decide +kernel
theorem dX6_readGreater_22 : decode cX6_readGreater 22 = .ok (.aload_n 0, 1) := by decide +kernel
theorem dX6_readGreater_23 : decode cX6_readGreater 23 = .ok (.bipush 44, 2) := by decide +kernel
theorem dX6_readGreater_25 : decode cX6_readGreater 25 = .ok (.invokevirtual 15, 3) := by decide +kernel
theorem dX6_readGreater_28 : decode cX6_readGreater 28 = .ok (.aload_n 0, 1) := by decide +kernel
theorem dX6_readGreater_29 : decode cX6_readGreater 29 = .ok (.iload_n 1, 1) := by decide +kernel
theorem dX6_readGreater_30 : decode cX6_readGreater 30 = .ok (.invokevirtual 19, 3) := by decide +kernel
theorem dX6_readGreater_33 : decode cX6_readGreater 33 = .ok (.aload_n 0, 1) := by decide +kernel
theorem dX6_readGreater_34 : decode cX6_readGreater 34 = .ok (.bipush 41, 2) := by decide +kernel
theorem dX6_readGreater_36 : decode cX6_readGreater 36 = .ok (.invokevirtual 15, 3) := by decide +kernel
theorem dX6_readGreater_39 : decode cX6_readGreater 39 = .ok (.aload_n 0, 1) := by decide +kernel
theorem dX6_readGreater_40 : decode cX6_readGreater 40 = .ok (.getfield 9, 3) := by decide +kernel
theorem dX6_readGreater_43 : decode cX6_readGreater 43 = .ok (.iload_n 2, 1) := by decide +kernel
theorem dX6_readGreater_44 : decode cX6_readGreater 44 = .ok (.bipush 6, 2) := by decide +kernel
theorem dX6_readGreater_46 : decode cX6_readGreater 46 = .ok (.iconst 0, 1) := by decide +kernel
theorem dX6_readGreater_47 : decode cX6_readGreater 47 = .ok (.invokevirtual 52, 3) := by decide +kernel
theorem dX6_readGreater_50 : decode cX6_readGreater 50 = .ok (.return_, 1) := by decide +kernel
theorem dX6_readRectangle_0 : decode cX6_readRectangle 0 = .ok (.aload_n 0, 1) := by decide +kernel
theorem dX6_readRectangle_1 : decode cX6_readRectangle 1 = .ok (.getfield 22, 3) := by decide +kernel
theorem dX6_readRectangle_4 : decode cX6_readRectangle 4 = .ok (.istore_n 1, 1) := by decide +kernel
theorem dX6_readRectangle_5 : decode cX6_readRectangle 5 = .ok (.aload_n 0, 1) := by decide +kernel
theorem dX6_readRectangle_6 : decode cX6_readRectangle 6 = .ok (.bipush 83, 2) := by decide +kernel
theorem dX6_readRectangle_8 : decode cX6_readRectangle 8 = .ok (.invokevirtual 15, 3) := by decide +kernel
theorem dX6_readRectangle_11 : decode cX6_readRectangle 11 = .ok (.aload_n 0, 1) := by decide +kernel
theorem dX6_readRectangle_12 : decode cX6_readRectangle 12 = .ok (.bipush 40, 2) := by decide +kernel
theorem dX6_readRectangle_14 : decode cX6_readRectangle 14 = .ok (.invokevirtual 15, 3) := by decide +kernel
theorem dX6_readRectangle_17 : decode cX6_readRectangle 17 = .ok (.aload_n 0, 1) := by decide +kernel
theorem dX6_readRectangle_18 : decode cX6_readRectangle 18 = .ok (.iconst 3, 1) := by decide +kernel
theorem dX6_readRectangle_19 : decode cX6_readRectangle 19 = .ok (.invokevirtual 75, 3) := by decide +kernel
theorem dX6_readRectangle_22 : decode cX6_readRectangle 22 = .ok (.aload_n 0, 1) := by decide +kernel
theorem dX6_readRectangle_23 : decode cX6_readRectangle 23 = .ok (.bipush 58, 2) := by decide +kernel
theorem dX6_readRectangle_25 : decode cX6_readRectangle 25 = .ok (.invokevirtual 15, 3) := by decide +kernel
theorem dX6_readRectangle_28 : decode cX6_readRectangle 28 = .ok (.aload_n 0, 1) := by decide +kernel
theorem dX6_readRectangle_29 : decode cX6_readRectangle 29 = .ok (.iconst 3, 1) := by decide +kernel
theorem dX6_readRectangle_30 : decode cX6_readRectangle 30 = .ok (.invokevirtual 75, 3) := by decide +kernel
theorem dX6_readRectangle_33 : decode cX6_readRectangle 33 = .ok (.aload_n 0, 1) := by decide +kernel
theorem dX6_readRectangle_34 : decode cX6_readRectangle 34 = .ok (.bipush 41, 2) := by decide +kernel
theorem dX6_readRectangle_36 : decode cX6_readRectangle 36 = .ok (.invokevirtual 15, 3) := by decide +kernel
theorem dX6_readRectangle_39 : decode cX6_readRectangle 39 = .ok (.aload_n 0, 1) := by decide +kernel
theorem dX6_readRectangle_40 : decode cX6_readRectangle 40 = .ok (.getfield 9, 3) := by decide +kernel
theorem dX6_readRectangle_43 : decode cX6_readRectangle 43 = .ok (.iload_n 1, 1) := by decide +kernel
theorem dX6_readRectangle_44 : decode cX6_readRectangle 44 = .ok (.iconst 5, 1) := by decide +kernel
theorem dX6_readRectangle_45 : decode cX6_readRectangle 45 = .ok (.iconst 0, 1) := by decide +kernel
theorem dX6_readRectangle_46 : decode cX6_readRectangle 46 = .ok (.invokevirtual 52, 3) := by decide +kernel
theorem dX6_readRectangle_49 : decode cX6_readRectangle 49 = .ok (.return_, 1) := by decide +kernel
theorem dX6_readNumber_0 : decode cX6_readNumber 0 = .ok (.aload_n 0, 1) := by decide +kernel
theorem dX6_readNumber_1 : decode cX6_readNumber 1 = .ok (.getfield 22, 3) := by decide +kernel
theorem dX6_readNumber_4 : decode cX6_readNumber 4 = .ok (.istore_n 1, 1) := by decide +kernel
theorem dX6_readNumber_5 : decode cX6_readNumber 5 = .ok (.iconst 0, 1) := by decide +kernel
theorem dX6_readNumber_6 : decode cX6_readNumber 6 = .ok (.istore_n 2, 1) := by decide +kernel
theorem dX6_readNumber_7 : decode cX6_readNumber 7 = .ok (.iconst 0, 1) := by decide +kernel
theorem dX6_readNumber_8 : decode cX6_readNumber 8 = .ok (.istore_n 3, 1) := by decide +kernel
theorem dX6_readNumber_9 : decode cX6_readNumber 9 = .ok (.iload_n 3, 1) := by decide +kernel
theorem dX6_readNumber_10 : decode cX6_readNumber 10 = .ok (.iconst 4, 1) := by decide +kernel
theorem dX6_readNumber_11 : decode cX6_readNumber 11 = .ok (.if_icmp .ge 42, 3) := by decide +kernel
theorem dX6_readNumber_14 : decode cX6_readNumber 14 = .ok (.aload_n 0, 1) := by decide +kernel
theorem dX6_readNumber_15 : decode cX6_readNumber 15 = .ok (.invokevirtual 46, 3) := by decide +kernel
theorem dX6_readNumber_18 : decode cX6_readNumber 18 = .ok (.invokestatic 68, 3) := by decide +kernel
theorem dX6_readNumber_21 : decode cX6_readNumber 21 = .ok (.ifCond .eq 32, 3) := by decide +kernel
theorem dX6_readNumber_24 : decode cX6_readNumber 24 = .ok (.bipush 10, 2) := by decide +kernel
theorem dX6_readNumber_26 : decode cX6_readNumber 26 = .ok (.iload_n 2, 1) := by decide +kernel
theorem dX6_readNumber_27 : decode cX6_readNumber 27 = .ok (.imul, 1) := by decide +kernel
theorem dX6_readNumber_28 : decode cX6_readNumber 28 = .ok (.aload_n 0, 1) := by decide +kernel
theorem dX6_readNumber_29 : decode cX6_readNumber 29 = .ok (.invokevirtual 46, 3) := by decide +kernel
theorem dX6_readNumber_32 : decode cX6_readNumber 32 = .ok (.iadd, 1) := by decide +kernel
theorem dX6_readNumber_33 : decode cX6_readNumber 33 = .ok (.bipush 48, 2) := by decide +kernel
theorem dX6_readNumber_35 : decode cX6_readNumber 35 = .ok (.isub, 1) := by decide +kernel
theorem dX6_readNumber_36 : decode cX6_readNumber 36 = .ok (.istore_n 2, 1) := by decide +kernel
theorem dX6_readNumber_37 : decode cX6_readNumber 37 = .ok (.aload_n 0, 1) := by decide +kernel
theorem dX6_readNumber_38 : decode cX6_readNumber 38 = .ok (.dup, 1) := by decide +kernel
theorem dX6_readNumber_39 : decode cX6_readNumber 39 = .ok (.getfield 22, 3) := by decide +kernel
theorem dX6_readNumber_42 : decode cX6_readNumber 42 = .ok (.iconst 1, 1) := by decide +kernel
theorem dX6_readNumber_43 : decode cX6_readNumber 43 = .ok (.iadd, 1) := by decide +kernel
theorem dX6_readNumber_44 : decode cX6_readNumber 44 = .ok (.putfield 22, 3) := by decide +kernel
theorem dX6_readNumber_47 : decode cX6_readNumber 47 = .ok (.iinc 3 1, 3) := by decide +kernel
theorem dX6_readNumber_50 : decode cX6_readNumber 50 = .ok (.goto (-41), 3) := by decide +kernel
theorem dX6_readNumber_53 : decode cX6_readNumber 53 = .ok (.aload_n 0, 1) := by decide +kernel
theorem dX6_readNumber_54 : decode cX6_readNumber 54 = .ok (.getfield 9, 3) := by decide +kernel
theorem dX6_readNumber_57 : decode cX6_readNumber 57 = .ok (.iload_n 1, 1) := by decide +kernel
theorem dX6_readNumber_58 : decode cX6_readNumber 58 = .ok (.iconst 1, 1) := by decide +kernel
theorem dX6_readNumber_59 : decode cX6_readNumber 59 = .ok (.iload_n 2, 1) := by decide +kernel
theorem dX6_readNumber_60 : decode cX6_readNumber 60 = .ok (.invokevirtual 52, 3) := by decide +kernel
theorem dX6_readNumber_63 : decode cX6_readNumber 63 = .ok (.return_, 1) := by decide +kernel
theorem dX6_readCell_0 : decode cX6_readCell 0 = .ok (.aload_n 0, 1) := by decide +kernel
theorem dX6_readCell_1 : decode cX6_readCell 1 = .ok (.getfield 22, 3) := by decide +kernel
theorem dX6_readCell_4 : decode cX6_readCell 4 = .ok (.istore_n 2, 1) := by decide +kernel
theorem dX6_readCell_5 : decode cX6_readCell 5 = .ok (.aload_n 0, 1) := by decide +kernel
theorem dX6_readCell_6 : decode cX6_readCell 6 = .ok (.bipush 65, 2) := by decide +kernel
theorem dX6_readCell_8 : decode cX6_readCell 8 = .ok (.bipush 72, 2) := by decide +kernel
theorem dX6_readCell_10 : decode cX6_readCell 10 = .ok (.invokevirtual 42, 3) := by decide +kernel
theorem dX6_readCell_13 : decode cX6_readCell 13 = .ok (.bipush 65, 2) := by decide +kernel
theorem dX6_readCell_15 : decode cX6_readCell 15 = .ok (.isub, 1) := by decide +kernel
theorem dX6_readCell_16 : decode cX6_readCell 16 = .ok (.istore_n 3, 1) := by decide +kernel
theorem dX6_readCell_17 : decode cX6_readCell 17 = .ok (.aload_n 0, 1) := by decide +kernel
theorem dX6_readCell_18 : decode cX6_readCell 18 = .ok (.bipush 49, 2) := by decide +kernel
theorem dX6_readCell_20 : decode cX6_readCell 20 = .ok (.bipush 56, 2) := by decide +kernel
theorem dX6_readCell_22 : decode cX6_readCell 22 = .ok (.invokevirtual 42, 3) := by decide +kernel
theorem dX6_readCell_25 : decode cX6_readCell 25 = .ok (.bipush 49, 2) := by decide +kernel
theorem dX6_readCell_27 : decode cX6_readCell 27 = .ok (.isub, 1) := by decide +kernel
theorem dX6_readCell_28 : decode cX6_readCell 28 = .ok (.istore 4, 2) := by decide +kernel
theorem dX6_readCell_30 : decode cX6_readCell 30 = .ok (.aload_n 0, 1) := by decide +kernel
theorem dX6_readCell_31 : decode cX6_readCell 31 = .ok (.getfield 9, 3) := by decide +kernel
theorem dX6_readCell_34 : decode cX6_readCell 34 = .ok (.iload_n 2, 1) := by decide +kernel
theorem dX6_readCell_35 : decode cX6_readCell 35 = .ok (.iload_n 1, 1) := by decide +kernel
theorem dX6_readCell_36 : decode cX6_readCell 36 = .ok (.bipush 8, 2) := by decide +kernel
theorem dX6_readCell_38 : decode cX6_readCell 38 = .ok (.iload 4, 2) := by decide +kernel
theorem dX6_readCell_40 : decode cX6_readCell 40 = .ok (.imul, 1) := by decide +kernel
theorem dX6_readCell_41 : decode cX6_readCell 41 = .ok (.iload_n 3, 1) := by decide +kernel
theorem dX6_readCell_42 : decode cX6_readCell 42 = .ok (.iadd, 1) := by decide +kernel
theorem dX6_readCell_43 : decode cX6_readCell 43 = .ok (.invokevirtual 52, 3) := by decide +kernel
theorem dX6_readCell_46 : decode cX6_readCell 46 = .ok (.return_, 1) := by decide +kernel
theorem dX6_isDigit_0 : decode cX6_isDigit 0 = .ok (.iload_n 0, 1) := by decide +kernel
theorem dX6_isDigit_1 : decode cX6_isDigit 1 = .ok (.bipush 48, 2) := by decide +kernel
theorem dX6_isDigit_3 : decode cX6_isDigit 3 = .ok (.if_icmp .lt 13, 3) := by decide +kernel
theorem dX6_isDigit_6 : decode cX6_isDigit 6 = .ok (.iload_n 0, 1) := by decide +kernel
theorem dX6_isDigit_7 : decode cX6_isDigit 7 = .ok (.bipush 57, 2) := by decide +kernel
theorem dX6_isDigit_9 : decode cX6_isDigit 9 = .ok (.if_icmp .gt 7, 3) := by decide +kernel
theorem dX6_isDigit_12 : decode cX6_isDigit 12 = .ok (.iconst 1, 1) := by decide +kernel
theorem dX6_isDigit_13 : decode cX6_isDigit 13 = .ok (.goto 4, 3) := by decide +kernel
theorem dX6_isDigit_16 : decode cX6_isDigit 16 = .ok (.iconst 0, 1) := by decide +kernel
theorem dX6_isDigit_17 : decode cX6_isDigit 17 = .ok (.ireturn, 1) := by decide +kernel
theorem dX7_init_0 : decode cX7_init 0 = .ok (.aload_n 0, 1) := by decide +kernel
theorem dX7_init_1 : decode cX7_init 1 = .ok (.invokespecial 3, 3) := by decide +kernel
theorem dX7_init_4 : decode cX7_init 4 = .ok (.aload_n 0, 1) := by decide +kernel
theorem dX7_init_5 : decode cX7_init 5 = .ok (.new 9, 3) := by decide +kernel
theorem dX7_init_8 : decode cX7_init 8 = .ok (.dup, 1) := by decide +kernel
theorem dX7_init_9 : decode cX7_init 9 = .ok (.invokespecial 11, 3) := by decide +kernel
theorem dX7_init_12 : decode cX7_init 12 = .ok (.putfield 12, 3) := by decide +kernel
theorem dX7_init_15 : decode cX7_init 15 = .ok (.aload_n 0, 1) := by decide +kernel
theorem dX7_init_16 : decode cX7_init 16 = .ok (.bipush 64, 2) := by decide +kernel
theorem dX7_init_18 : decode cX7_init 18 = .ok (.newarray .int, 2) := by decide +kernel
theorem dX7_init_20 : decode cX7_init 20 = .ok (.putfield 18, 3) := by decide +kernel
theorem dX7_init_23 : decode cX7_init 23 = .ok (.aload_n 0, 1) := by decide +kernel
theorem dX7_init_24 : decode cX7_init 24 = .ok (.bipush 64, 2) := by decide +kernel
theorem dX7_init_26 : decode cX7_init 26 = .ok (.newarray .int, 2) := by decide +kernel
theorem dX7_init_28 : decode cX7_init 28 = .ok (.putfield 22, 3) := by decide +kernel
theorem dX7_init_31 : decode cX7_init 31 = .ok (.aload_n 0, 1) := by decide +kernel
theorem dX7_init_32 : decode cX7_init 32 = .ok (.bipush 64, 2) := by decide +kernel
theorem dX7_init_34 : decode cX7_init 34 = .ok (.anewarray 25, 3) := by decide +kernel
theorem dX7_init_37 : decode cX7_init 37 = .ok (.putfield 27, 3) := by decide +kernel
theorem dX7_init_40 : decode cX7_init 40 = .ok (.aload_n 0, 1) := by decide +kernel
theorem dX7_init_41 : decode cX7_init 41 = .ok (.bipush 64, 2) := by decide +kernel
theorem dX7_init_43 : decode cX7_init 43 = .ok (.newarray .long, 2) := by decide +kernel
theorem dX7_init_45 : decode cX7_init 45 = .ok (.putfield 31, 3) := by decide +kernel
theorem dX7_init_48 : decode cX7_init 48 = .ok (.return_, 1) := by decide +kernel
theorem dX7_empty_0 : decode cX7_empty 0 = .ok (.aload_n 0, 1) := by decide +kernel
theorem dX7_empty_1 : decode cX7_empty 1 = .ok (.iload_n 1, 1) := by decide +kernel
theorem dX7_empty_2 : decode cX7_empty 2 = .ok (.iconst 0, 1) := by decide +kernel
theorem dX7_empty_3 : decode cX7_empty 3 = .ok (.iconst 0, 1) := by decide +kernel
theorem dX7_empty_4 : decode cX7_empty 4 = .ok (.aconst_null, 1) := by decide +kernel
theorem dX7_empty_5 : decode cX7_empty 5 = .ok (.lconst 0, 1) := by decide +kernel
theorem dX7_empty_6 : decode cX7_empty 6 = .ok (.invokevirtual 35, 3) := by decide +kernel
theorem dX7_empty_9 : decode cX7_empty 9 = .ok (.return_, 1) := by decide +kernel
theorem dX7_putNumber_0 : decode cX7_putNumber 0 = .ok (.aload_n 0, 1) := by decide +kernel
theorem dX7_putNumber_1 : decode cX7_putNumber 1 = .ok (.iload_n 1, 1) := by decide +kernel
theorem dX7_putNumber_2 : decode cX7_putNumber 2 = .ok (.iconst 1, 1) := by decide +kernel
theorem dX7_putNumber_3 : decode cX7_putNumber 3 = .ok (.iload_n 2, 1) := by decide +kernel
theorem dX7_putNumber_4 : decode cX7_putNumber 4 = .ok (.aconst_null, 1) := by decide +kernel
theorem dX7_putNumber_5 : decode cX7_putNumber 5 = .ok (.lconst 0, 1) := by decide +kernel
theorem dX7_putNumber_6 : decode cX7_putNumber 6 = .ok (.invokevirtual 35, 3) := by decide +kernel
theorem dX7_putNumber_9 : decode cX7_putNumber 9 = .ok (.return_, 1) := by decide +kernel
theorem dX7_putFormula_0 : decode cX7_putFormula 0 = .ok (.aload_n 0, 1) := by decide +kernel
theorem dX7_putFormula_1 : decode cX7_putFormula 1 = .ok (.iload_n 1, 1) := by decide +kernel
theorem dX7_putFormula_2 : decode cX7_putFormula 2 = .ok (.iconst 2, 1) := by decide +kernel
theorem dX7_putFormula_3 : decode cX7_putFormula 3 = .ok (.iconst 0, 1) := by decide +kernel
theorem dX7_putFormula_4 : decode cX7_putFormula 4 = .ok (.aload_n 2, 1) := by decide +kernel
theorem dX7_putFormula_5 : decode cX7_putFormula 5 = .ok (.aload_n 2, 1) := by decide +kernel
theorem dX7_putFormula_6 : decode cX7_putFormula 6 = .ok (.aload_n 0, 1) := by decide +kernel
theorem dX7_putFormula_7 : decode cX7_putFormula 7 = .ok (.getfield 12, 3) := by decide +kernel
theorem dX7_putFormula_10 : decode cX7_putFormula 10 = .ok (.invokevirtual 39, 3) := by decide +kernel
theorem dX7_putFormula_13 : decode cX7_putFormula 13 = .ok (.invokevirtual 35, 3) := by decide +kernel
theorem dX7_putFormula_16 : decode cX7_putFormula 16 = .ok (.return_, 1) := by decide +kernel
theorem dX7_put_0 : decode cX7_put 0 = .ok (.iload_n 1, 1) := by decide +kernel
theorem dX7_put_1 : decode cX7_put 1 = .ok (.invokestatic 42, 3) := by decide +kernel
theorem dX7_put_4 : decode cX7_put 4 = .ok (.ifCond .eq 67, 3) := by decide +kernel
theorem dX7_put_7 : decode cX7_put 7 = .ok (.aload_n 0, 1) := by decide +kernel
theorem dX7_put_8 : decode cX7_put 8 = .ok (.getfield 18, 3) := by decide +kernel
theorem dX7_put_11 : decode cX7_put 11 = .ok (.iload_n 1, 1) := by decide +kernel
theorem dX7_put_12 : decode cX7_put 12 = .ok (.iload_n 2, 1) := by decide +kernel
theorem dX7_put_13 : decode cX7_put 13 = .ok (.iastore, 1) := by decide +kernel
theorem dX7_put_14 : decode cX7_put 14 = .ok (.aload_n 0, 1) := by decide +kernel
theorem dX7_put_15 : decode cX7_put 15 = .ok (.getfield 22, 3) := by decide +kernel
theorem dX7_put_18 : decode cX7_put 18 = .ok (.iload_n 1, 1) := by decide +kernel
theorem dX7_put_19 : decode cX7_put 19 = .ok (.iload_n 3, 1) := by decide +kernel
theorem dX7_put_20 : decode cX7_put 20 = .ok (.iastore, 1) := by decide +kernel
theorem dX7_put_21 : decode cX7_put 21 = .ok (.aload_n 0, 1) := by decide +kernel
theorem dX7_put_22 : decode cX7_put 22 = .ok (.getfield 27, 3) := by decide +kernel
theorem dX7_put_25 : decode cX7_put 25 = .ok (.iload_n 1, 1) := by decide +kernel
theorem dX7_put_26 : decode cX7_put 26 = .ok (.aload 4, 2) := by decide +kernel
theorem dX7_put_28 : decode cX7_put 28 = .ok (.aastore, 1) := by decide +kernel
theorem dX7_put_29 : decode cX7_put 29 = .ok (.aload_n 0, 1) := by decide +kernel
theorem dX7_put_30 : decode cX7_put 30 = .ok (.getfield 31, 3) := by decide +kernel
theorem dX7_put_33 : decode cX7_put 33 = .ok (.iload_n 1, 1) := by decide +kernel
theorem dX7_put_34 : decode cX7_put 34 = .ok (.lload 5, 2) := by decide +kernel
theorem dX7_put_36 : decode cX7_put 36 = .ok (.lastore, 1) := by decide +kernel
theorem dX7_put_37 : decode cX7_put 37 = .ok (.aload_n 0, 1) := by decide +kernel
theorem dX7_put_38 : decode cX7_put 38 = .ok (.iload_n 2, 1) := by decide +kernel
theorem dX7_put_39 : decode cX7_put 39 = .ok (.iconst 2, 1) := by decide +kernel
theorem dX7_put_40 : decode cX7_put 40 = .ok (.if_icmp .ne 15, 3) := by decide +kernel
theorem dX7_put_43 : decode cX7_put 43 = .ok (.aload_n 0, 1) := by decide +kernel
theorem dX7_put_44 : decode cX7_put 44 = .ok (.getfield 46, 3) := by decide +kernel
theorem dX7_put_47 : decode cX7_put 47 = .ok (.iload_n 1, 1) := by decide +kernel
theorem dX7_put_48 : decode cX7_put 48 = .ok (.invokestatic 50, 3) := by decide +kernel
theorem dX7_put_51 : decode cX7_put 51 = .ok (.lor, 1) := by decide +kernel
theorem dX7_put_52 : decode cX7_put 52 = .ok (.goto 16, 3) := by decide +kernel
theorem dX7_put_55 : decode cX7_put 55 = .ok (.aload_n 0, 1) := by decide +kernel
theorem dX7_put_56 : decode cX7_put 56 = .ok (.getfield 46, 3) := by decide +kernel
theorem dX7_put_59 : decode cX7_put 59 = .ok (.iload_n 1, 1) := by decide +kernel
theorem dX7_put_60 : decode cX7_put 60 = .ok (.invokestatic 50, 3) := by decide +kernel
theorem dX7_put_63 : decode cX7_put 63 = .ok (.ldc2_w 54, 3) := by decide +kernel
theorem dX7_put_66 : decode cX7_put 66 = .ok (.lxor, 1) := by decide +kernel
theorem dX7_put_67 : decode cX7_put 67 = .ok (.land, 1) := by decide +kernel
theorem dX7_put_68 : decode cX7_put 68 = .ok (.putfield 46, 3) := by decide +kernel
theorem dX7_put_71 : decode cX7_put 71 = .ok (.return_, 1) := by decide +kernel
theorem dX7_reckoned_0 : decode cX7_reckoned 0 = .ok (.aload_n 0, 1) := by decide +kernel
theorem dX7_reckoned_1 : decode cX7_reckoned 1 = .ok (.getfield 46, 3) := by decide +kernel
theorem dX7_reckoned_4 : decode cX7_reckoned 4 = .ok (.lreturn, 1) := by decide +kernel
theorem dX7_heldAt_0 : decode cX7_heldAt 0 = .ok (.iload_n 1, 1) := by decide +kernel
theorem dX7_heldAt_1 : decode cX7_heldAt 1 = .ok (.invokestatic 42, 3) := by decide +kernel
theorem dX7_heldAt_4 : decode cX7_heldAt 4 = .ok (.ifCond .eq 12, 3) := by decide +kernel
theorem dX7_heldAt_7 : decode cX7_heldAt 7 = .ok (.aload_n 0, 1) := by decide +kernel
theorem dX7_heldAt_8 : decode cX7_heldAt 8 = .ok (.getfield 18, 3) := by decide +kernel
theorem dX7_heldAt_11 : decode cX7_heldAt 11 = .ok (.iload_n 1, 1) := by decide +kernel
theorem dX7_heldAt_12 : decode cX7_heldAt 12 = .ok (.iaload, 1) := by decide +kernel
theorem dX7_heldAt_13 : decode cX7_heldAt 13 = .ok (.goto 4, 3) := by decide +kernel
theorem dX7_heldAt_16 : decode cX7_heldAt 16 = .ok (.iconst 0, 1) := by decide +kernel
theorem dX7_heldAt_17 : decode cX7_heldAt 17 = .ok (.ireturn, 1) := by decide +kernel
theorem dX7_numberAt_0 : decode cX7_numberAt 0 = .ok (.iload_n 1, 1) := by decide +kernel
theorem dX7_numberAt_1 : decode cX7_numberAt 1 = .ok (.invokestatic 42, 3) := by decide +kernel
theorem dX7_numberAt_4 : decode cX7_numberAt 4 = .ok (.ifCond .eq 12, 3) := by decide +kernel
theorem dX7_numberAt_7 : decode cX7_numberAt 7 = .ok (.aload_n 0, 1) := by decide +kernel
theorem dX7_numberAt_8 : decode cX7_numberAt 8 = .ok (.getfield 22, 3) := by decide +kernel
theorem dX7_numberAt_11 : decode cX7_numberAt 11 = .ok (.iload_n 1, 1) := by decide +kernel
theorem dX7_numberAt_12 : decode cX7_numberAt 12 = .ok (.iaload, 1) := by decide +kernel
theorem dX7_numberAt_13 : decode cX7_numberAt 13 = .ok (.goto 4, 3) := by decide +kernel
theorem dX7_numberAt_16 : decode cX7_numberAt 16 = .ok (.iconst 0, 1) := by decide +kernel
theorem dX7_numberAt_17 : decode cX7_numberAt 17 = .ok (.ireturn, 1) := by decide +kernel
theorem dX7_formulaAt_0 : decode cX7_formulaAt 0 = .ok (.iload_n 1, 1) := by decide +kernel
theorem dX7_formulaAt_1 : decode cX7_formulaAt 1 = .ok (.invokestatic 42, 3) := by decide +kernel
theorem dX7_formulaAt_4 : decode cX7_formulaAt 4 = .ok (.ifCond .eq 12, 3) := by decide +kernel
theorem dX7_formulaAt_7 : decode cX7_formulaAt 7 = .ok (.aload_n 0, 1) := by decide +kernel
theorem dX7_formulaAt_8 : decode cX7_formulaAt 8 = .ok (.getfield 27, 3) := by decide +kernel
theorem dX7_formulaAt_11 : decode cX7_formulaAt 11 = .ok (.iload_n 1, 1) := by decide +kernel
theorem dX7_formulaAt_12 : decode cX7_formulaAt 12 = .ok (.aaload, 1) := by decide +kernel
theorem dX7_formulaAt_13 : decode cX7_formulaAt 13 = .ok (.goto 4, 3) := by decide +kernel
theorem dX7_formulaAt_16 : decode cX7_formulaAt 16 = .ok (.aconst_null, 1) := by decide +kernel
theorem dX7_formulaAt_17 : decode cX7_formulaAt 17 = .ok (.areturn, 1) := by decide +kernel
theorem dX7_needsAt_0 : decode cX7_needsAt 0 = .ok (.iload_n 1, 1) := by decide +kernel
theorem dX7_needsAt_1 : decode cX7_needsAt 1 = .ok (.invokestatic 42, 3) := by decide +kernel
theorem dX7_needsAt_4 : decode cX7_needsAt 4 = .ok (.ifCond .eq 12, 3) := by decide +kernel
theorem dX7_needsAt_7 : decode cX7_needsAt 7 = .ok (.aload_n 0, 1) := by decide +kernel
theorem dX7_needsAt_8 : decode cX7_needsAt 8 = .ok (.getfield 31, 3) := by decide +kernel
theorem dX7_needsAt_11 : decode cX7_needsAt 11 = .ok (.iload_n 1, 1) := by decide +kernel
theorem dX7_needsAt_12 : decode cX7_needsAt 12 = .ok (.laload, 1) := by decide +kernel
theorem dX7_needsAt_13 : decode cX7_needsAt 13 = .ok (.goto 4, 3) := by decide +kernel
theorem dX7_needsAt_16 : decode cX7_needsAt 16 = .ok (.lconst 0, 1) := by decide +kernel
theorem dX7_needsAt_17 : decode cX7_needsAt 17 = .ok (.lreturn, 1) := by decide +kernel
theorem dX8_init_0 : decode cX8_init 0 = .ok (.aload_n 0, 1) := by decide +kernel
theorem dX8_init_1 : decode cX8_init 1 = .ok (.invokespecial 3, 3) := by decide +kernel
theorem dX8_init_4 : decode cX8_init 4 = .ok (.aload_n 0, 1) := by decide +kernel
theorem dX8_init_5 : decode cX8_init 5 = .ok (.bipush 60, 2) := by decide +kernel
theorem dX8_init_7 : decode cX8_init 7 = .ok (.newarray .int, 2) := by decide +kernel
theorem dX8_init_9 : decode cX8_init 9 = .ok (.putfield 9, 3) := by decide +kernel
theorem dX8_init_12 : decode cX8_init 12 = .ok (.return_, 1) := by decide +kernel
theorem dX8_length_0 : decode cX8_length 0 = .ok (.aload_n 0, 1) := by decide +kernel
theorem dX8_length_1 : decode cX8_length 1 = .ok (.getfield 15, 3) := by decide +kernel
theorem dX8_length_4 : decode cX8_length 4 = .ok (.ireturn, 1) := by decide +kernel
theorem dX8_hasRoom_0 : decode cX8_hasRoom 0 = .ok (.aload_n 0, 1) := by decide +kernel
theorem dX8_hasRoom_1 : decode cX8_hasRoom 1 = .ok (.getfield 15, 3) := by decide +kernel
theorem dX8_hasRoom_4 : decode cX8_hasRoom 4 = .ok (.bipush 20, 2) := by decide +kernel
theorem dX8_hasRoom_6 : decode cX8_hasRoom 6 = .ok (.iadd, 1) := by decide +kernel
theorem dX8_hasRoom_7 : decode cX8_hasRoom 7 = .ok (.bipush 60, 2) := by decide +kernel
theorem dX8_hasRoom_9 : decode cX8_hasRoom 9 = .ok (.if_icmp .gt 7, 3) := by decide +kernel
theorem dX8_hasRoom_12 : decode cX8_hasRoom 12 = .ok (.iconst 1, 1) := by decide +kernel
theorem dX8_hasRoom_13 : decode cX8_hasRoom 13 = .ok (.goto 4, 3) := by decide +kernel
theorem dX8_hasRoom_16 : decode cX8_hasRoom 16 = .ok (.iconst 0, 1) := by decide +kernel
theorem dX8_hasRoom_17 : decode cX8_hasRoom 17 = .ok (.ireturn, 1) := by decide +kernel
theorem dX8_append_0 : decode cX8_append 0 = .ok (.bipush 24, 2) := by decide +kernel
theorem dX8_append_2 : decode cX8_append 2 = .ok (.istore_n 2, 1) := by decide +kernel
theorem dX8_append_3 : decode cX8_append 3 = .ok (.iload_n 2, 1) := by decide +kernel
theorem dX8_append_4 : decode cX8_append 4 = .ok (.ifCond .lt 54, 3) := by decide +kernel
theorem dX8_append_7 : decode cX8_append 7 = .ok (.aload_n 0, 1) := by decide +kernel
theorem dX8_append_8 : decode cX8_append 8 = .ok (.getfield 15, 3) := by decide +kernel
theorem dX8_append_11 : decode cX8_append 11 = .ok (.ifCond .lt 41, 3) := by decide +kernel
theorem dX8_append_14 : decode cX8_append 14 = .ok (.aload_n 0, 1) := by decide +kernel
theorem dX8_append_15 : decode cX8_append 15 = .ok (.getfield 15, 3) := by decide +kernel
theorem dX8_append_18 : decode cX8_append 18 = .ok (.aload_n 0, 1) := by decide +kernel
theorem dX8_append_19 : decode cX8_append 19 = .ok (.getfield 9, 3) := by decide +kernel
theorem dX8_append_22 : decode cX8_append 22 = .ok (.arraylength, 1) := by decide +kernel
theorem dX8_append_23 : decode cX8_append 23 = .ok (.if_icmp .ge 29, 3) := by decide +kernel
theorem dX8_append_26 : decode cX8_append 26 = .ok (.aload_n 0, 1) := by decide +kernel
theorem dX8_append_27 : decode cX8_append 27 = .ok (.getfield 9, 3) := by decide +kernel
theorem dX8_append_30 : decode cX8_append 30 = .ok (.aload_n 0, 1) := by decide +kernel
theorem dX8_append_31 : decode cX8_append 31 = .ok (.getfield 15, 3) := by decide +kernel
theorem dX8_append_34 : decode cX8_append 34 = .ok (.iload_n 1, 1) := by decide +kernel
theorem dX8_append_35 : decode cX8_append 35 = .ok (.iload_n 2, 1) := by decide +kernel
theorem dX8_append_36 : decode cX8_append 36 = .ok (.iushr, 1) := by decide +kernel
theorem dX8_append_37 : decode cX8_append 37 = .ok (.sipush 255, 3) := by decide +kernel
theorem dX8_append_40 : decode cX8_append 40 = .ok (.iand, 1) := by decide +kernel
theorem dX8_append_41 : decode cX8_append 41 = .ok (.iastore, 1) := by decide +kernel
theorem dX8_append_42 : decode cX8_append 42 = .ok (.aload_n 0, 1) := by decide +kernel
theorem dX8_append_43 : decode cX8_append 43 = .ok (.dup, 1) := by decide +kernel
theorem dX8_append_44 : decode cX8_append 44 = .ok (.getfield 15, 3) := by decide +kernel
theorem dX8_append_47 : decode cX8_append 47 = .ok (.iconst 1, 1) := by decide +kernel
theorem dX8_append_48 : decode cX8_append 48 = .ok (.iadd, 1) := by decide +kernel
theorem dX8_append_49 : decode cX8_append 49 = .ok (.putfield 15, 3) := by decide +kernel
theorem dX8_append_52 : decode cX8_append 52 = .ok (.iinc 2 (-8), 3) := by decide +kernel
theorem dX8_append_55 : decode cX8_append 55 = .ok (.goto (-52), 3) := by decide +kernel
theorem dX8_append_58 : decode cX8_append 58 = .ok (.return_, 1) := by decide +kernel
theorem dX8_moveTo_0 : decode cX8_moveTo 0 = .ok (.iconst 0, 1) := by decide +kernel
theorem dX8_moveTo_1 : decode cX8_moveTo 1 = .ok (.istore_n 2, 1) := by decide +kernel
theorem dX8_moveTo_2 : decode cX8_moveTo 2 = .ok (.iload_n 2, 1) := by decide +kernel
theorem dX8_moveTo_3 : decode cX8_moveTo 3 = .ok (.aload_n 0, 1) := by decide +kernel
theorem dX8_moveTo_4 : decode cX8_moveTo 4 = .ok (.getfield 15, 3) := by decide +kernel
theorem dX8_moveTo_7 : decode cX8_moveTo 7 = .ok (.if_icmp .ge 29, 3) := by decide +kernel
theorem dX8_moveTo_10 : decode cX8_moveTo 10 = .ok (.iload_n 2, 1) := by decide +kernel
theorem dX8_moveTo_11 : decode cX8_moveTo 11 = .ok (.aload_n 0, 1) := by decide +kernel
theorem dX8_moveTo_12 : decode cX8_moveTo 12 = .ok (.getfield 9, 3) := by decide +kernel
theorem dX8_moveTo_15 : decode cX8_moveTo 15 = .ok (.arraylength, 1) := by decide +kernel
theorem dX8_moveTo_16 : decode cX8_moveTo 16 = .ok (.if_icmp .ge 20, 3) := by decide +kernel
theorem dX8_moveTo_19 : decode cX8_moveTo 19 = .ok (.aload_n 1, 1) := by decide +kernel
theorem dX8_moveTo_20 : decode cX8_moveTo 20 = .ok (.iload_n 2, 1) := by decide +kernel
theorem dX8_moveTo_21 : decode cX8_moveTo 21 = .ok (.aload_n 0, 1) := by decide +kernel
theorem dX8_moveTo_22 : decode cX8_moveTo 22 = .ok (.getfield 9, 3) := by decide +kernel
theorem dX8_moveTo_25 : decode cX8_moveTo 25 = .ok (.iload_n 2, 1) := by decide +kernel
theorem dX8_moveTo_26 : decode cX8_moveTo 26 = .ok (.iaload, 1) := by decide +kernel
theorem dX8_moveTo_27 : decode cX8_moveTo 27 = .ok (.invokevirtual 19, 3) := by decide +kernel
theorem dX8_moveTo_30 : decode cX8_moveTo 30 = .ok (.iinc 2 1, 3) := by decide +kernel
theorem dX8_moveTo_33 : decode cX8_moveTo 33 = .ok (.goto (-31), 3) := by decide +kernel
theorem dX8_moveTo_36 : decode cX8_moveTo 36 = .ok (.aload_n 0, 1) := by decide +kernel
theorem dX8_moveTo_37 : decode cX8_moveTo 37 = .ok (.iconst 0, 1) := by decide +kernel
theorem dX8_moveTo_38 : decode cX8_moveTo 38 = .ok (.putfield 15, 3) := by decide +kernel
theorem dX8_moveTo_41 : decode cX8_moveTo 41 = .ok (.return_, 1) := by decide +kernel
theorem dX9_init_0 : decode cX9_init 0 = .ok (.aload_n 0, 1) := by decide +kernel
theorem dX9_init_1 : decode cX9_init 1 = .ok (.invokespecial 1, 3) := by decide +kernel
theorem dX9_init_4 : decode cX9_init 4 = .ok (.aload_n 0, 1) := by decide +kernel
theorem dX9_init_5 : decode cX9_init 5 = .ok (.new 7, 3) := by decide +kernel
theorem dX9_init_8 : decode cX9_init 8 = .ok (.dup, 1) := by decide +kernel
theorem dX9_init_9 : decode cX9_init 9 = .ok (.invokespecial 9, 3) := by decide +kernel
theorem dX9_init_12 : decode cX9_init 12 = .ok (.putfield 10, 3) := by decide +kernel
theorem dX9_init_15 : decode cX9_init 15 = .ok (.aload_n 0, 1) := by decide +kernel
theorem dX9_init_16 : decode cX9_init 16 = .ok (.new 16, 3) := by decide +kernel
theorem dX9_init_19 : decode cX9_init 19 = .ok (.dup, 1) := by decide +kernel
theorem dX9_init_20 : decode cX9_init 20 = .ok (.invokespecial 18, 3) := by decide +kernel
theorem dX9_init_23 : decode cX9_init 23 = .ok (.putfield 19, 3) := by decide +kernel
theorem dX9_init_26 : decode cX9_init 26 = .ok (.aload_n 0, 1) := by decide +kernel
theorem dX9_init_27 : decode cX9_init 27 = .ok (.bipush 6, 2) := by decide +kernel
theorem dX9_init_29 : decode cX9_init 29 = .ok (.anewarray 23, 3) := by decide +kernel
theorem dX9_init_32 : decode cX9_init 32 = .ok (.putfield 25, 3) := by decide +kernel
theorem dX9_init_35 : decode cX9_init 35 = .ok (.iconst 0, 1) := by decide +kernel
theorem dX9_init_36 : decode cX9_init 36 = .ok (.istore_n 1, 1) := by decide +kernel
theorem dX9_init_37 : decode cX9_init 37 = .ok (.iload_n 1, 1) := by decide +kernel
theorem dX9_init_38 : decode cX9_init 38 = .ok (.bipush 6, 2) := by decide +kernel
theorem dX9_init_40 : decode cX9_init 40 = .ok (.if_icmp .ge 22, 3) := by decide +kernel
theorem dX9_init_43 : decode cX9_init 43 = .ok (.aload_n 0, 1) := by decide +kernel
theorem dX9_init_44 : decode cX9_init 44 = .ok (.getfield 25, 3) := by decide +kernel
theorem dX9_init_47 : decode cX9_init 47 = .ok (.iload_n 1, 1) := by decide +kernel
theorem dX9_init_48 : decode cX9_init 48 = .ok (.new 23, 3) := by decide +kernel
theorem dX9_init_51 : decode cX9_init 51 = .ok (.dup, 1) := by decide +kernel
theorem dX9_init_52 : decode cX9_init 52 = .ok (.invokespecial 29, 3) := by decide +kernel
theorem dX9_init_55 : decode cX9_init 55 = .ok (.aastore, 1) := by decide +kernel
theorem dX9_init_56 : decode cX9_init 56 = .ok (.iinc 1 1, 3) := by decide +kernel
theorem dX9_init_59 : decode cX9_init 59 = .ok (.goto (-22), 3) := by decide +kernel
theorem dX9_init_62 : decode cX9_init 62 = .ok (.new 30, 3) := by decide +kernel
theorem dX9_init_65 : decode cX9_init 65 = .ok (.dup, 1) := by decide +kernel
theorem dX9_init_66 : decode cX9_init 66 = .ok (.invokespecial 32, 3) := by decide +kernel
theorem dX9_init_69 : decode cX9_init 69 = .ok (.astore_n 1, 1) := by decide +kernel
theorem dX9_init_70 : decode cX9_init 70 = .ok (.aload_n 0, 1) := by decide +kernel
theorem dX9_init_71 : decode cX9_init 71 = .ok (.new 33, 3) := by decide +kernel
theorem dX9_init_74 : decode cX9_init 74 = .ok (.dup, 1) := by decide +kernel
theorem dX9_init_75 : decode cX9_init 75 = .ok (.aload_n 0, 1) := by decide +kernel
theorem dX9_init_76 : decode cX9_init 76 = .ok (.getfield 19, 3) := by decide +kernel
theorem dX9_init_79 : decode cX9_init 79 = .ok (.aload_n 1, 1) := by decide +kernel
theorem dX9_init_80 : decode cX9_init 80 = .ok (.invokespecial 35, 3) := by decide +kernel
theorem dX9_init_83 : decode cX9_init 83 = .ok (.putfield 38, 3) := by decide +kernel
theorem dX9_init_86 : decode cX9_init 86 = .ok (.aload_n 0, 1) := by decide +kernel
theorem dX9_init_87 : decode cX9_init 87 = .ok (.new 33, 3) := by decide +kernel
theorem dX9_init_90 : decode cX9_init 90 = .ok (.dup, 1) := by decide +kernel
theorem dX9_init_91 : decode cX9_init 91 = .ok (.aload_n 0, 1) := by decide +kernel
theorem dX9_init_92 : decode cX9_init 92 = .ok (.getfield 19, 3) := by decide +kernel
theorem dX9_init_95 : decode cX9_init 95 = .ok (.aload_n 1, 1) := by decide +kernel
theorem dX9_init_96 : decode cX9_init 96 = .ok (.invokespecial 35, 3) := by decide +kernel
theorem dX9_init_99 : decode cX9_init 99 = .ok (.putfield 42, 3) := by decide +kernel
theorem dX9_init_102 : decode cX9_init 102 = .ok (.aload_n 0, 1) := by decide +kernel
theorem dX9_init_103 : decode cX9_init 103 = .ok (.new 33, 3) := by decide +kernel
theorem dX9_init_106 : decode cX9_init 106 = .ok (.dup, 1) := by decide +kernel
theorem dX9_init_107 : decode cX9_init 107 = .ok (.aload_n 0, 1) := by decide +kernel
theorem dX9_init_108 : decode cX9_init 108 = .ok (.getfield 19, 3) := by decide +kernel
theorem dX9_init_111 : decode cX9_init 111 = .ok (.aload_n 1, 1) := by decide +kernel
theorem dX9_init_112 : decode cX9_init 112 = .ok (.invokespecial 35, 3) := by decide +kernel
theorem dX9_init_115 : decode cX9_init 115 = .ok (.putfield 45, 3) := by decide +kernel
theorem dX9_init_118 : decode cX9_init 118 = .ok (.aload_n 0, 1) := by decide +kernel
theorem dX9_init_119 : decode cX9_init 119 = .ok (.new 48, 3) := by decide +kernel
theorem dX9_init_122 : decode cX9_init 122 = .ok (.dup, 1) := by decide +kernel
theorem dX9_init_123 : decode cX9_init 123 = .ok (.aload_n 0, 1) := by decide +kernel
theorem dX9_init_124 : decode cX9_init 124 = .ok (.getfield 19, 3) := by decide +kernel
theorem dX9_init_127 : decode cX9_init 127 = .ok (.aload_n 1, 1) := by decide +kernel
theorem dX9_init_128 : decode cX9_init 128 = .ok (.aload_n 0, 1) := by decide +kernel
theorem dX9_init_129 : decode cX9_init 129 = .ok (.getfield 38, 3) := by decide +kernel
theorem dX9_init_132 : decode cX9_init 132 = .ok (.aload_n 0, 1) := by decide +kernel
theorem dX9_init_133 : decode cX9_init 133 = .ok (.getfield 42, 3) := by decide +kernel
theorem dX9_init_136 : decode cX9_init 136 = .ok (.aload_n 0, 1) := by decide +kernel
theorem dX9_init_137 : decode cX9_init 137 = .ok (.getfield 45, 3) := by decide +kernel
theorem dX9_init_140 : decode cX9_init 140 = .ok (.invokespecial 50, 3) := by decide +kernel
theorem dX9_init_143 : decode cX9_init 143 = .ok (.putfield 53, 3) := by decide +kernel
theorem dX9_init_146 : decode cX9_init 146 = .ok (.return_, 1) := by decide +kernel
theorem dX9_feed_0 : decode cX9_feed 0 = .ok (.aload_n 0, 1) := by decide +kernel
theorem dX9_feed_1 : decode cX9_feed 1 = .ok (.getfield 10, 3) := by decide +kernel
theorem dX9_feed_4 : decode cX9_feed 4 = .ok (.invokevirtual 57, 3) := by decide +kernel
theorem dX9_feed_7 : decode cX9_feed 7 = .ok (.ifCond .ne 5, 3) := by decide +kernel
theorem dX9_feed_10 : decode cX9_feed 10 = .ok (.iconst (-1), 1) := by decide +kernel
theorem dX9_feed_11 : decode cX9_feed 11 = .ok (.ireturn, 1) := by decide +kernel
theorem dX9_feed_12 : decode cX9_feed 12 = .ok (.aload_n 0, 1) := by decide +kernel
theorem dX9_feed_13 : decode cX9_feed 13 = .ok (.getfield 10, 3) := by decide +kernel
theorem dX9_feed_16 : decode cX9_feed 16 = .ok (.iload_n 1, 1) := by decide +kernel
theorem dX9_feed_17 : decode cX9_feed 17 = .ok (.invokevirtual 61, 3) := by decide +kernel
theorem dX9_feed_20 : decode cX9_feed 20 = .ok (.aload_n 0, 1) := by decide +kernel
theorem dX9_feed_21 : decode cX9_feed 21 = .ok (.getfield 10, 3) := by decide +kernel
theorem dX9_feed_24 : decode cX9_feed 24 = .ok (.iload_n 2, 1) := by decide +kernel
theorem dX9_feed_25 : decode cX9_feed 25 = .ok (.invokevirtual 61, 3) := by decide +kernel
theorem dX9_feed_28 : decode cX9_feed 28 = .ok (.aload_n 0, 1) := by decide +kernel
theorem dX9_feed_29 : decode cX9_feed 29 = .ok (.getfield 10, 3) := by decide +kernel
theorem dX9_feed_32 : decode cX9_feed 32 = .ok (.iload_n 3, 1) := by decide +kernel
theorem dX9_feed_33 : decode cX9_feed 33 = .ok (.invokevirtual 61, 3) := by decide +kernel
theorem dX9_feed_36 : decode cX9_feed 36 = .ok (.aload_n 0, 1) := by decide +kernel
theorem dX9_feed_37 : decode cX9_feed 37 = .ok (.getfield 10, 3) := by decide +kernel
theorem dX9_feed_40 : decode cX9_feed 40 = .ok (.iload 4, 2) := by decide +kernel
theorem dX9_feed_42 : decode cX9_feed 42 = .ok (.invokevirtual 61, 3) := by decide +kernel
theorem dX9_feed_45 : decode cX9_feed 45 = .ok (.aload_n 0, 1) := by decide +kernel
theorem dX9_feed_46 : decode cX9_feed 46 = .ok (.getfield 10, 3) := by decide +kernel
theorem dX9_feed_49 : decode cX9_feed 49 = .ok (.iload 5, 2) := by decide +kernel
theorem dX9_feed_51 : decode cX9_feed 51 = .ok (.invokevirtual 61, 3) := by decide +kernel
theorem dX9_feed_54 : decode cX9_feed 54 = .ok (.aload_n 0, 1) := by decide +kernel
theorem dX9_feed_55 : decode cX9_feed 55 = .ok (.getfield 10, 3) := by decide +kernel
theorem dX9_feed_58 : decode cX9_feed 58 = .ok (.invokevirtual 65, 3) := by decide +kernel
theorem dX9_feed_61 : decode cX9_feed 61 = .ok (.ireturn, 1) := by decide +kernel
theorem dX9_number_0 : decode cX9_number 0 = .ok (.aload_n 0, 1) := by decide +kernel
theorem dX9_number_1 : decode cX9_number 1 = .ok (.iload_n 1, 1) := by decide +kernel
theorem dX9_number_2 : decode cX9_number 2 = .ok (.invokevirtual 69, 3) := by decide +kernel
theorem dX9_number_5 : decode cX9_number 5 = .ok (.astore 4, 2) := by decide +kernel
theorem dX9_number_7 : decode cX9_number 7 = .ok (.aload 4, 2) := by decide +kernel
theorem dX9_number_9 : decode cX9_number 9 = .ok (.ifnull 17, 3) := by decide +kernel
theorem dX9_number_12 : decode cX9_number 12 = .ok (.iload_n 2, 1) := by decide +kernel
theorem dX9_number_13 : decode cX9_number 13 = .ok (.invokestatic 73, 3) := by decide +kernel
theorem dX9_number_16 : decode cX9_number 16 = .ok (.ifCond .eq 10, 3) := by decide +kernel
theorem dX9_number_19 : decode cX9_number 19 = .ok (.iload_n 3, 1) := by decide +kernel
theorem dX9_number_20 : decode cX9_number 20 = .ok (.invokestatic 77, 3) := by decide +kernel
theorem dX9_number_23 : decode cX9_number 23 = .ok (.ifCond .ne 5, 3) := by decide +kernel
theorem dX9_number_26 : decode cX9_number 26 = .ok (.iconst 0, 1) := by decide +kernel
theorem dX9_number_27 : decode cX9_number 27 = .ok (.ireturn, 1) := by decide +kernel
theorem dX9_number_28 : decode cX9_number 28 = .ok (.aload 4, 2) := by decide +kernel
theorem dX9_number_30 : decode cX9_number 30 = .ok (.iload_n 2, 1) := by decide +kernel
theorem dX9_number_31 : decode cX9_number 31 = .ok (.iload_n 3, 1) := by decide +kernel
theorem dX9_number_32 : decode cX9_number 32 = .ok (.invokevirtual 80, 3) := by decide +kernel
theorem dX9_number_35 : decode cX9_number 35 = .ok (.iconst 1, 1) := by decide +kernel
theorem dX9_number_36 : decode cX9_number 36 = .ok (.ireturn, 1) := by decide +kernel
theorem dX9_formula_0 : decode cX9_formula 0 = .ok (.aload_n 0, 1) := by decide +kernel
theorem dX9_formula_1 : decode cX9_formula 1 = .ok (.iload_n 1, 1) := by decide +kernel
theorem dX9_formula_2 : decode cX9_formula 2 = .ok (.invokevirtual 69, 3) := by decide +kernel
theorem dX9_formula_5 : decode cX9_formula 5 = .ok (.astore 4, 2) := by decide +kernel
theorem dX9_formula_7 : decode cX9_formula 7 = .ok (.aload 4, 2) := by decide +kernel
theorem dX9_formula_9 : decode cX9_formula 9 = .ok (.ifnull 31, 3) := by decide +kernel
theorem dX9_formula_12 : decode cX9_formula 12 = .ok (.iload_n 2, 1) := by decide +kernel
theorem dX9_formula_13 : decode cX9_formula 13 = .ok (.invokestatic 73, 3) := by decide +kernel
theorem dX9_formula_16 : decode cX9_formula 16 = .ok (.ifCond .eq 24, 3) := by decide +kernel
theorem dX9_formula_19 : decode cX9_formula 19 = .ok (.iload_n 3, 1) := by decide +kernel
theorem dX9_formula_20 : decode cX9_formula 20 = .ok (.ifCond .lt 20, 3) := by decide +kernel
theorem dX9_formula_23 : decode cX9_formula 23 = .ok (.iload_n 3, 1) := by decide +kernel
theorem dX9_formula_24 : decode cX9_formula 24 = .ok (.bipush 40, 2) := by decide +kernel
theorem dX9_formula_26 : decode cX9_formula 26 = .ok (.if_icmp .gt 14, 3) := by decide +kernel
theorem dX9_formula_29 : decode cX9_formula 29 = .ok (.iload_n 3, 1) := by decide +kernel
theorem dX9_formula_30 : decode cX9_formula 30 = .ok (.aload_n 0, 1) := by decide +kernel
theorem dX9_formula_31 : decode cX9_formula 31 = .ok (.getfield 10, 3) := by decide +kernel
theorem dX9_formula_34 : decode cX9_formula 34 = .ok (.invokevirtual 65, 3) := by decide +kernel
theorem dX9_formula_37 : decode cX9_formula 37 = .ok (.if_icmp .le 5, 3) := by decide +kernel
theorem dX9_formula_40 : decode cX9_formula 40 = .ok (.iconst (-1), 1) := by decide +kernel
theorem dX9_formula_41 : decode cX9_formula 41 = .ok (.ireturn, 1) := by decide +kernel
theorem dX9_formula_42 : decode cX9_formula 42 = .ok (.new 84, 3) := by decide +kernel
theorem dX9_formula_45 : decode cX9_formula 45 = .ok (.dup, 1) := by decide +kernel
theorem dX9_formula_46 : decode cX9_formula 46 = .ok (.iload_n 3, 1) := by decide +kernel
theorem dX9_formula_47 : decode cX9_formula 47 = .ok (.invokespecial 86, 3) := by decide +kernel
theorem dX9_formula_50 : decode cX9_formula 50 = .ok (.astore 5, 2) := by decide +kernel
theorem dX9_formula_52 : decode cX9_formula 52 = .ok (.aload_n 0, 1) := by decide +kernel
theorem dX9_formula_53 : decode cX9_formula 53 = .ok (.getfield 10, 3) := by decide +kernel
theorem dX9_formula_56 : decode cX9_formula 56 = .ok (.aload 5, 2) := by decide +kernel
theorem dX9_formula_58 : decode cX9_formula 58 = .ok (.invokevirtual 88, 3) := by decide +kernel
theorem dX9_formula_61 : decode cX9_formula 61 = .ok (.new 92, 3) := by decide +kernel
theorem dX9_formula_64 : decode cX9_formula 64 = .ok (.dup, 1) := by decide +kernel
theorem dX9_formula_65 : decode cX9_formula 65 = .ok (.aload 5, 2) := by decide +kernel
theorem dX9_formula_67 : decode cX9_formula 67 = .ok (.invokespecial 94, 3) := by decide +kernel
theorem dX9_formula_70 : decode cX9_formula 70 = .ok (.invokevirtual 96, 3) := by decide +kernel
theorem dX9_formula_73 : decode cX9_formula 73 = .ok (.istore 6, 2) := by decide +kernel
theorem dX9_formula_75 : decode cX9_formula 75 = .ok (.iload 6, 2) := by decide +kernel
theorem dX9_formula_77 : decode cX9_formula 77 = .ok (.ifCond .ne 11, 3) := by decide +kernel
theorem dX9_formula_80 : decode cX9_formula 80 = .ok (.aload 4, 2) := by decide +kernel
theorem dX9_formula_82 : decode cX9_formula 82 = .ok (.iload_n 2, 1) := by decide +kernel
theorem dX9_formula_83 : decode cX9_formula 83 = .ok (.aload 5, 2) := by decide +kernel
theorem dX9_formula_85 : decode cX9_formula 85 = .ok (.invokevirtual 99, 3) := by decide +kernel
theorem dX9_formula_88 : decode cX9_formula 88 = .ok (.iload 6, 2) := by decide +kernel
theorem dX9_formula_90 : decode cX9_formula 90 = .ok (.ireturn, 1) := by decide +kernel
theorem dX9_clear_0 : decode cX9_clear 0 = .ok (.aload_n 0, 1) := by decide +kernel
theorem dX9_clear_1 : decode cX9_clear 1 = .ok (.iload_n 1, 1) := by decide +kernel
theorem dX9_clear_2 : decode cX9_clear 2 = .ok (.invokevirtual 69, 3) := by decide +kernel
theorem dX9_clear_5 : decode cX9_clear 5 = .ok (.astore_n 3, 1) := by decide +kernel
theorem dX9_clear_6 : decode cX9_clear 6 = .ok (.aload_n 3, 1) := by decide +kernel
theorem dX9_clear_7 : decode cX9_clear 7 = .ok (.ifnull 11, 3) := by decide +kernel
theorem dX9_clear_10 : decode cX9_clear 10 = .ok (.aload_n 3, 1) := by decide +kernel
theorem dX9_clear_11 : decode cX9_clear 11 = .ok (.iload_n 2, 1) := by decide +kernel
theorem dX9_clear_12 : decode cX9_clear 12 = .ok (.invokevirtual 103, 3) := by decide +kernel
theorem dX9_clear_15 : decode cX9_clear 15 = .ok (.ifCond .ne 5, 3) := by decide +kernel
theorem dX9_clear_18 : decode cX9_clear 18 = .ok (.iconst 0, 1) := by decide +kernel
theorem dX9_clear_19 : decode cX9_clear 19 = .ok (.ireturn, 1) := by decide +kernel
theorem dX9_clear_20 : decode cX9_clear 20 = .ok (.aload_n 3, 1) := by decide +kernel
theorem dX9_clear_21 : decode cX9_clear 21 = .ok (.iload_n 2, 1) := by decide +kernel
theorem dX9_clear_22 : decode cX9_clear 22 = .ok (.invokevirtual 107, 3) := by decide +kernel
theorem dX9_clear_25 : decode cX9_clear 25 = .ok (.iconst 1, 1) := by decide +kernel
theorem dX9_clear_26 : decode cX9_clear 26 = .ok (.ireturn, 1) := by decide +kernel
theorem dX9_input_0 : decode cX9_input 0 = .ok (.iload_n 1, 1) := by decide +kernel
theorem dX9_input_1 : decode cX9_input 1 = .ok (.invokestatic 73, 3) := by decide +kernel
theorem dX9_input_4 : decode cX9_input 4 = .ok (.ifCond .eq 37, 3) := by decide +kernel
theorem dX9_input_7 : decode cX9_input 7 = .ok (.aload_n 0, 1) := by decide +kernel
theorem dX9_input_8 : decode cX9_input 8 = .ok (.getfield 19, 3) := by decide +kernel
theorem dX9_input_11 : decode cX9_input 11 = .ok (.iload_n 1, 1) := by decide +kernel
theorem dX9_input_12 : decode cX9_input 12 = .ok (.invokevirtual 110, 3) := by decide +kernel
theorem dX9_input_15 : decode cX9_input 15 = .ok (.ifCond .ne 26, 3) := by decide +kernel
theorem dX9_input_18 : decode cX9_input 18 = .ok (.aload_n 0, 1) := by decide +kernel
theorem dX9_input_19 : decode cX9_input 19 = .ok (.getfield 19, 3) := by decide +kernel
theorem dX9_input_22 : decode cX9_input 22 = .ok (.iload_n 1, 1) := by decide +kernel
theorem dX9_input_23 : decode cX9_input 23 = .ok (.invokevirtual 113, 3) := by decide +kernel
theorem dX9_input_26 : decode cX9_input 26 = .ok (.ifCond .ne 15, 3) := by decide +kernel
theorem dX9_input_29 : decode cX9_input 29 = .ok (.aload_n 0, 1) := by decide +kernel
theorem dX9_input_30 : decode cX9_input 30 = .ok (.getfield 19, 3) := by decide +kernel
theorem dX9_input_33 : decode cX9_input 33 = .ok (.invokevirtual 116, 3) := by decide +kernel
theorem dX9_input_36 : decode cX9_input 36 = .ok (.bipush 8, 2) := by decide +kernel
theorem dX9_input_38 : decode cX9_input 38 = .ok (.if_icmp .lt 5, 3) := by decide +kernel
theorem dX9_input_41 : decode cX9_input 41 = .ok (.iconst 0, 1) := by decide +kernel
theorem dX9_input_42 : decode cX9_input 42 = .ok (.ireturn, 1) := by decide +kernel
theorem dX9_input_43 : decode cX9_input 43 = .ok (.aload_n 0, 1) := by decide +kernel
theorem dX9_input_44 : decode cX9_input 44 = .ok (.getfield 19, 3) := by decide +kernel
theorem dX9_input_47 : decode cX9_input 47 = .ok (.iload_n 1, 1) := by decide +kernel
theorem dX9_input_48 : decode cX9_input 48 = .ok (.invokevirtual 119, 3) := by decide +kernel
theorem dX9_input_51 : decode cX9_input 51 = .ok (.iconst 1, 1) := by decide +kernel
theorem dX9_input_52 : decode cX9_input 52 = .ok (.ireturn, 1) := by decide +kernel
theorem dX9_wants_0 : decode cX9_wants 0 = .ok (.iload_n 1, 1) := by decide +kernel
theorem dX9_wants_1 : decode cX9_wants 1 = .ok (.invokestatic 73, 3) := by decide +kernel
theorem dX9_wants_4 : decode cX9_wants 4 = .ok (.ifCond .eq 25, 3) := by decide +kernel
theorem dX9_wants_7 : decode cX9_wants 7 = .ok (.iload_n 2, 1) := by decide +kernel
theorem dX9_wants_8 : decode cX9_wants 8 = .ok (.iconst 1, 1) := by decide +kernel
theorem dX9_wants_9 : decode cX9_wants 9 = .ok (.if_icmp .lt 20, 3) := by decide +kernel
theorem dX9_wants_12 : decode cX9_wants 12 = .ok (.iload_n 2, 1) := by decide +kernel
theorem dX9_wants_13 : decode cX9_wants 13 = .ok (.bipush 100, 2) := by decide +kernel
theorem dX9_wants_15 : decode cX9_wants 15 = .ok (.if_icmp .gt 14, 3) := by decide +kernel
theorem dX9_wants_18 : decode cX9_wants 18 = .ok (.aload_n 0, 1) := by decide +kernel
theorem dX9_wants_19 : decode cX9_wants 19 = .ok (.getfield 19, 3) := by decide +kernel
theorem dX9_wants_22 : decode cX9_wants 22 = .ok (.iload_n 1, 1) := by decide +kernel
theorem dX9_wants_23 : decode cX9_wants 23 = .ok (.invokevirtual 110, 3) := by decide +kernel
theorem dX9_wants_26 : decode cX9_wants 26 = .ok (.ifCond .eq 5, 3) := by decide +kernel
theorem dX9_wants_29 : decode cX9_wants 29 = .ok (.iconst 0, 1) := by decide +kernel
theorem dX9_wants_30 : decode cX9_wants 30 = .ok (.ireturn, 1) := by decide +kernel
theorem dX9_wants_31 : decode cX9_wants 31 = .ok (.aload_n 0, 1) := by decide +kernel
theorem dX9_wants_32 : decode cX9_wants 32 = .ok (.getfield 19, 3) := by decide +kernel
theorem dX9_wants_35 : decode cX9_wants 35 = .ok (.iload_n 1, 1) := by decide +kernel
theorem dX9_wants_36 : decode cX9_wants 36 = .ok (.invokevirtual 113, 3) := by decide +kernel
theorem dX9_wants_39 : decode cX9_wants 39 = .ok (.ifCond .ne 17, 3) := by decide +kernel
theorem dX9_wants_42 : decode cX9_wants 42 = .ok (.aload_n 0, 1) := by decide +kernel
theorem dX9_wants_43 : decode cX9_wants 43 = .ok (.getfield 19, 3) := by decide +kernel
theorem dX9_wants_46 : decode cX9_wants 46 = .ok (.invokevirtual 122, 3) := by decide +kernel
theorem dX9_wants_49 : decode cX9_wants 49 = .ok (.bipush 16, 2) := by decide +kernel
theorem dX9_wants_51 : decode cX9_wants 51 = .ok (.if_icmp .lt 5, 3) := by decide +kernel
theorem dX9_wants_54 : decode cX9_wants 54 = .ok (.iconst 0, 1) := by decide +kernel
theorem dX9_wants_55 : decode cX9_wants 55 = .ok (.ireturn, 1) := by decide +kernel
theorem dX9_wants_56 : decode cX9_wants 56 = .ok (.aload_n 0, 1) := by decide +kernel
theorem dX9_wants_57 : decode cX9_wants 57 = .ok (.getfield 19, 3) := by decide +kernel
theorem dX9_wants_60 : decode cX9_wants 60 = .ok (.iload_n 1, 1) := by decide +kernel
theorem dX9_wants_61 : decode cX9_wants 61 = .ok (.iload_n 2, 1) := by decide +kernel
theorem dX9_wants_62 : decode cX9_wants 62 = .ok (.invokevirtual 125, 3) := by decide +kernel
theorem dX9_wants_65 : decode cX9_wants 65 = .ok (.iconst 1, 1) := by decide +kernel
theorem dX9_wants_66 : decode cX9_wants 66 = .ok (.ireturn, 1) := by decide +kernel
theorem dX9_world_0 : decode cX9_world 0 = .ok (.aload_n 0, 1) := by decide +kernel
theorem dX9_world_1 : decode cX9_world 1 = .ok (.getfield 19, 3) := by decide +kernel
theorem dX9_world_4 : decode cX9_world 4 = .ok (.invokevirtual 128, 3) := by decide +kernel
theorem dX9_world_7 : decode cX9_world 7 = .ok (.bipush 6, 2) := by decide +kernel
theorem dX9_world_9 : decode cX9_world 9 = .ok (.if_icmp .ge 13, 3) := by decide +kernel
theorem dX9_world_12 : decode cX9_world 12 = .ok (.aload_n 0, 1) := by decide +kernel
theorem dX9_world_13 : decode cX9_world 13 = .ok (.getfield 19, 3) := by decide +kernel
theorem dX9_world_16 : decode cX9_world 16 = .ok (.invokevirtual 131, 3) := by decide +kernel
theorem dX9_world_19 : decode cX9_world 19 = .ok (.goto 4, 3) := by decide +kernel
theorem dX9_world_22 : decode cX9_world 22 = .ok (.iconst (-1), 1) := by decide +kernel
theorem dX9_world_23 : decode cX9_world 23 = .ok (.ireturn, 1) := by decide +kernel
theorem dX9_give_0 : decode cX9_give 0 = .ok (.aload_n 0, 1) := by decide +kernel
theorem dX9_give_1 : decode cX9_give 1 = .ok (.getfield 19, 3) := by decide +kernel
theorem dX9_give_4 : decode cX9_give 4 = .ok (.iload_n 1, 1) := by decide +kernel
theorem dX9_give_5 : decode cX9_give 5 = .ok (.invokevirtual 134, 3) := by decide +kernel
theorem dX9_give_8 : decode cX9_give 8 = .ok (.ifCond .eq 21, 3) := by decide +kernel
theorem dX9_give_11 : decode cX9_give 11 = .ok (.aload_n 0, 1) := by decide +kernel
theorem dX9_give_12 : decode cX9_give 12 = .ok (.getfield 19, 3) := by decide +kernel
theorem dX9_give_15 : decode cX9_give 15 = .ok (.iload_n 2, 1) := by decide +kernel
theorem dX9_give_16 : decode cX9_give 16 = .ok (.invokevirtual 110, 3) := by decide +kernel
theorem dX9_give_19 : decode cX9_give 19 = .ok (.ifCond .eq 10, 3) := by decide +kernel
theorem dX9_give_22 : decode cX9_give 22 = .ok (.iload_n 3, 1) := by decide +kernel
theorem dX9_give_23 : decode cX9_give 23 = .ok (.invokestatic 77, 3) := by decide +kernel
theorem dX9_give_26 : decode cX9_give 26 = .ok (.ifCond .ne 5, 3) := by decide +kernel
theorem dX9_give_29 : decode cX9_give 29 = .ok (.iconst 0, 1) := by decide +kernel
theorem dX9_give_30 : decode cX9_give 30 = .ok (.ireturn, 1) := by decide +kernel
theorem dX9_give_31 : decode cX9_give 31 = .ok (.aload_n 0, 1) := by decide +kernel
theorem dX9_give_32 : decode cX9_give 32 = .ok (.getfield 19, 3) := by decide +kernel
theorem dX9_give_35 : decode cX9_give 35 = .ok (.iload_n 1, 1) := by decide +kernel
theorem dX9_give_36 : decode cX9_give 36 = .ok (.iload_n 2, 1) := by decide +kernel
theorem dX9_give_37 : decode cX9_give 37 = .ok (.iload_n 3, 1) := by decide +kernel
theorem dX9_give_38 : decode cX9_give 38 = .ok (.invokevirtual 137, 3) := by decide +kernel
theorem dX9_give_41 : decode cX9_give 41 = .ok (.iconst 1, 1) := by decide +kernel
theorem dX9_give_42 : decode cX9_give 42 = .ok (.ireturn, 1) := by decide +kernel
theorem dX9_value_0 : decode cX9_value 0 = .ok (.aload_n 0, 1) := by decide +kernel
theorem dX9_value_1 : decode cX9_value 1 = .ok (.iload_n 1, 1) := by decide +kernel
theorem dX9_value_2 : decode cX9_value 2 = .ok (.iload_n 2, 1) := by decide +kernel
theorem dX9_value_3 : decode cX9_value 3 = .ok (.iload_n 3, 1) := by decide +kernel
theorem dX9_value_4 : decode cX9_value 4 = .ok (.invokevirtual 141, 3) := by decide +kernel
theorem dX9_value_7 : decode cX9_value 7 = .ok (.ifCond .eq 15, 3) := by decide +kernel
theorem dX9_value_10 : decode cX9_value 10 = .ok (.aload_n 0, 1) := by decide +kernel
theorem dX9_value_11 : decode cX9_value 11 = .ok (.getfield 42, 3) := by decide +kernel
theorem dX9_value_14 : decode cX9_value 14 = .ok (.iload_n 3, 1) := by decide +kernel
theorem dX9_value_15 : decode cX9_value 15 = .ok (.iload_n 2, 1) := by decide +kernel
theorem dX9_value_16 : decode cX9_value 16 = .ok (.invokevirtual 145, 3) := by decide +kernel
theorem dX9_value_19 : decode cX9_value 19 = .ok (.goto 6, 3) := by decide +kernel
theorem dX9_value_22 : decode cX9_value 22 = .ok (.ldc2_w 149, 3) := by decide +kernel
theorem dX9_value_25 : decode cX9_value 25 = .ok (.lreturn, 1) := by decide +kernel
theorem dX9_error_0 : decode cX9_error 0 = .ok (.aload_n 0, 1) := by decide +kernel
theorem dX9_error_1 : decode cX9_error 1 = .ok (.iload_n 1, 1) := by decide +kernel
theorem dX9_error_2 : decode cX9_error 2 = .ok (.iload_n 2, 1) := by decide +kernel
theorem dX9_error_3 : decode cX9_error 3 = .ok (.iload_n 3, 1) := by decide +kernel
theorem dX9_error_4 : decode cX9_error 4 = .ok (.invokevirtual 141, 3) := by decide +kernel
theorem dX9_error_7 : decode cX9_error 7 = .ok (.ifCond .eq 15, 3) := by decide +kernel
theorem dX9_error_10 : decode cX9_error 10 = .ok (.aload_n 0, 1) := by decide +kernel
theorem dX9_error_11 : decode cX9_error 11 = .ok (.getfield 42, 3) := by decide +kernel
theorem dX9_error_14 : decode cX9_error 14 = .ok (.iload_n 3, 1) := by decide +kernel
theorem dX9_error_15 : decode cX9_error 15 = .ok (.iload_n 2, 1) := by decide +kernel
theorem dX9_error_16 : decode cX9_error 16 = .ok (.invokevirtual 151, 3) := by decide +kernel
theorem dX9_error_19 : decode cX9_error 19 = .ok (.goto 4, 3) := by decide +kernel
theorem dX9_error_22 : decode cX9_error 22 = .ok (.iconst (-1), 1) := by decide +kernel
theorem dX9_error_23 : decode cX9_error 23 = .ok (.ireturn, 1) := by decide +kernel
theorem dX9_right_0 : decode cX9_right 0 = .ok (.aload_n 0, 1) := by decide +kernel
theorem dX9_right_1 : decode cX9_right 1 = .ok (.iload_n 1, 1) := by decide +kernel
theorem dX9_right_2 : decode cX9_right 2 = .ok (.iload_n 2, 1) := by decide +kernel
theorem dX9_right_3 : decode cX9_right 3 = .ok (.iload_n 3, 1) := by decide +kernel
theorem dX9_right_4 : decode cX9_right 4 = .ok (.invokevirtual 155, 3) := by decide +kernel
theorem dX9_right_7 : decode cX9_right 7 = .ok (.ifCond .eq 15, 3) := by decide +kernel
theorem dX9_right_10 : decode cX9_right 10 = .ok (.aload_n 0, 1) := by decide +kernel
theorem dX9_right_11 : decode cX9_right 11 = .ok (.getfield 45, 3) := by decide +kernel
theorem dX9_right_14 : decode cX9_right 14 = .ok (.iload_n 3, 1) := by decide +kernel
theorem dX9_right_15 : decode cX9_right 15 = .ok (.iload_n 2, 1) := by decide +kernel
theorem dX9_right_16 : decode cX9_right 16 = .ok (.invokevirtual 145, 3) := by decide +kernel
theorem dX9_right_19 : decode cX9_right 19 = .ok (.goto 6, 3) := by decide +kernel
theorem dX9_right_22 : decode cX9_right 22 = .ok (.ldc2_w 149, 3) := by decide +kernel
theorem dX9_right_25 : decode cX9_right 25 = .ok (.lreturn, 1) := by decide +kernel
theorem dX9_rightError_0 : decode cX9_rightError 0 = .ok (.aload_n 0, 1) := by decide +kernel
theorem dX9_rightError_1 : decode cX9_rightError 1 = .ok (.iload_n 1, 1) := by decide +kernel
theorem dX9_rightError_2 : decode cX9_rightError 2 = .ok (.iload_n 2, 1) := by decide +kernel
theorem dX9_rightError_3 : decode cX9_rightError 3 = .ok (.iload_n 3, 1) := by decide +kernel
theorem dX9_rightError_4 : decode cX9_rightError 4 = .ok (.invokevirtual 155, 3) := by decide +kernel
theorem dX9_rightError_7 : decode cX9_rightError 7 = .ok (.ifCond .eq 15, 3) := by decide +kernel
theorem dX9_rightError_10 : decode cX9_rightError 10 = .ok (.aload_n 0, 1) := by decide +kernel
theorem dX9_rightError_11 : decode cX9_rightError 11 = .ok (.getfield 45, 3) := by decide +kernel
theorem dX9_rightError_14 : decode cX9_rightError 14 = .ok (.iload_n 3, 1) := by decide +kernel
theorem dX9_rightError_15 : decode cX9_rightError 15 = .ok (.iload_n 2, 1) := by decide +kernel
theorem dX9_rightError_16 : decode cX9_rightError 16 = .ok (.invokevirtual 151, 3) := by decide +kernel
theorem dX9_rightError_19 : decode cX9_rightError 19 = .ok (.goto 4, 3) := by decide +kernel
theorem dX9_rightError_22 : decode cX9_rightError 22 = .ok (.iconst (-1), 1) := by decide +kernel
theorem dX9_rightError_23 : decode cX9_rightError 23 = .ok (.ireturn, 1) := by decide +kernel
theorem dX9_kind_0 : decode cX9_kind 0 = .ok (.aload_n 0, 1) := by decide +kernel
theorem dX9_kind_1 : decode cX9_kind 1 = .ok (.iload_n 1, 1) := by decide +kernel
theorem dX9_kind_2 : decode cX9_kind 2 = .ok (.invokevirtual 158, 3) := by decide +kernel
theorem dX9_kind_5 : decode cX9_kind 5 = .ok (.astore_n 3, 1) := by decide +kernel
theorem dX9_kind_6 : decode cX9_kind 6 = .ok (.aload_n 3, 1) := by decide +kernel
theorem dX9_kind_7 : decode cX9_kind 7 = .ok (.ifnull 14, 3) := by decide +kernel
theorem dX9_kind_10 : decode cX9_kind 10 = .ok (.aload_n 0, 1) := by decide +kernel
theorem dX9_kind_11 : decode cX9_kind 11 = .ok (.getfield 19, 3) := by decide +kernel
theorem dX9_kind_14 : decode cX9_kind 14 = .ok (.iload_n 2, 1) := by decide +kernel
theorem dX9_kind_15 : decode cX9_kind 15 = .ok (.invokevirtual 113, 3) := by decide +kernel
theorem dX9_kind_18 : decode cX9_kind 18 = .ok (.ifCond .ne 5, 3) := by decide +kernel
theorem dX9_kind_21 : decode cX9_kind 21 = .ok (.iconst (-1), 1) := by decide +kernel
theorem dX9_kind_22 : decode cX9_kind 22 = .ok (.ireturn, 1) := by decide +kernel
theorem dX9_kind_23 : decode cX9_kind 23 = .ok (.aload_n 0, 1) := by decide +kernel
theorem dX9_kind_24 : decode cX9_kind 24 = .ok (.getfield 53, 3) := by decide +kernel
theorem dX9_kind_27 : decode cX9_kind 27 = .ok (.aload_n 0, 1) := by decide +kernel
theorem dX9_kind_28 : decode cX9_kind 28 = .ok (.iconst 0, 1) := by decide +kernel
theorem dX9_kind_29 : decode cX9_kind 29 = .ok (.invokevirtual 69, 3) := by decide +kernel
theorem dX9_kind_32 : decode cX9_kind 32 = .ok (.aload_n 3, 1) := by decide +kernel
theorem dX9_kind_33 : decode cX9_kind 33 = .ok (.invokevirtual 161, 3) := by decide +kernel
theorem dX9_kind_36 : decode cX9_kind 36 = .ok (.aload_n 0, 1) := by decide +kernel
theorem dX9_kind_37 : decode cX9_kind 37 = .ok (.getfield 53, 3) := by decide +kernel
theorem dX9_kind_40 : decode cX9_kind 40 = .ok (.aload_n 3, 1) := by decide +kernel
theorem dX9_kind_41 : decode cX9_kind 41 = .ok (.iload_n 2, 1) := by decide +kernel
theorem dX9_kind_42 : decode cX9_kind 42 = .ok (.invokevirtual 165, 3) := by decide +kernel
theorem dX9_kind_45 : decode cX9_kind 45 = .ok (.ireturn, 1) := by decide +kernel
theorem dX9_points_0 : decode cX9_points 0 = .ok (.aload_n 0, 1) := by decide +kernel
theorem dX9_points_1 : decode cX9_points 1 = .ok (.iload_n 1, 1) := by decide +kernel
theorem dX9_points_2 : decode cX9_points 2 = .ok (.invokevirtual 158, 3) := by decide +kernel
theorem dX9_points_5 : decode cX9_points 5 = .ok (.astore_n 3, 1) := by decide +kernel
theorem dX9_points_6 : decode cX9_points 6 = .ok (.aload_n 3, 1) := by decide +kernel
theorem dX9_points_7 : decode cX9_points 7 = .ok (.ifnull 19, 3) := by decide +kernel
theorem dX9_points_10 : decode cX9_points 10 = .ok (.iload_n 2, 1) := by decide +kernel
theorem dX9_points_11 : decode cX9_points 11 = .ok (.iconst (-1), 1) := by decide +kernel
theorem dX9_points_12 : decode cX9_points 12 = .ok (.if_icmp .eq 16, 3) := by decide +kernel
theorem dX9_points_15 : decode cX9_points 15 = .ok (.aload_n 0, 1) := by decide +kernel
theorem dX9_points_16 : decode cX9_points 16 = .ok (.getfield 19, 3) := by decide +kernel
theorem dX9_points_19 : decode cX9_points 19 = .ok (.iload_n 2, 1) := by decide +kernel
theorem dX9_points_20 : decode cX9_points 20 = .ok (.invokevirtual 113, 3) := by decide +kernel
theorem dX9_points_23 : decode cX9_points 23 = .ok (.ifCond .ne 5, 3) := by decide +kernel
theorem dX9_points_26 : decode cX9_points 26 = .ok (.iconst (-1), 1) := by decide +kernel
theorem dX9_points_27 : decode cX9_points 27 = .ok (.ireturn, 1) := by decide +kernel
theorem dX9_points_28 : decode cX9_points 28 = .ok (.aload_n 0, 1) := by decide +kernel
theorem dX9_points_29 : decode cX9_points 29 = .ok (.getfield 53, 3) := by decide +kernel
theorem dX9_points_32 : decode cX9_points 32 = .ok (.aload_n 0, 1) := by decide +kernel
theorem dX9_points_33 : decode cX9_points 33 = .ok (.iconst 0, 1) := by decide +kernel
theorem dX9_points_34 : decode cX9_points 34 = .ok (.invokevirtual 69, 3) := by decide +kernel
theorem dX9_points_37 : decode cX9_points 37 = .ok (.aload_n 3, 1) := by decide +kernel
theorem dX9_points_38 : decode cX9_points 38 = .ok (.invokevirtual 161, 3) := by decide +kernel
theorem dX9_points_41 : decode cX9_points 41 = .ok (.iconst 0, 1) := by decide +kernel
theorem dX9_points_42 : decode cX9_points 42 = .ok (.istore 4, 2) := by decide +kernel
theorem dX9_points_44 : decode cX9_points 44 = .ok (.iconst 0, 1) := by decide +kernel
theorem dX9_points_45 : decode cX9_points 45 = .ok (.istore 5, 2) := by decide +kernel
theorem dX9_points_47 : decode cX9_points 47 = .ok (.iload 5, 2) := by decide +kernel
theorem dX9_points_49 : decode cX9_points 49 = .ok (.bipush 64, 2) := by decide +kernel
theorem dX9_points_51 : decode cX9_points 51 = .ok (.if_icmp .ge 59, 3) := by decide +kernel
theorem dX9_points_54 : decode cX9_points 54 = .ok (.aload_n 0, 1) := by decide +kernel
theorem dX9_points_55 : decode cX9_points 55 = .ok (.getfield 19, 3) := by decide +kernel
theorem dX9_points_58 : decode cX9_points 58 = .ok (.iload 5, 2) := by decide +kernel
theorem dX9_points_60 : decode cX9_points 60 = .ok (.invokevirtual 113, 3) := by decide +kernel
theorem dX9_points_63 : decode cX9_points 63 = .ok (.ifCond .eq 41, 3) := by decide +kernel
theorem dX9_points_66 : decode cX9_points 66 = .ok (.iload_n 2, 1) := by decide +kernel
theorem dX9_points_67 : decode cX9_points 67 = .ok (.iconst (-1), 1) := by decide +kernel
theorem dX9_points_68 : decode cX9_points 68 = .ok (.if_icmp .eq 9, 3) := by decide +kernel
theorem dX9_points_71 : decode cX9_points 71 = .ok (.iload_n 2, 1) := by decide +kernel
theorem dX9_points_72 : decode cX9_points 72 = .ok (.iload 5, 2) := by decide +kernel
theorem dX9_points_74 : decode cX9_points 74 = .ok (.if_icmp .ne 30, 3) := by decide +kernel
theorem dX9_points_77 : decode cX9_points 77 = .ok (.iload 4, 2) := by decide +kernel
theorem dX9_points_79 : decode cX9_points 79 = .ok (.aload_n 0, 1) := by decide +kernel
theorem dX9_points_80 : decode cX9_points 80 = .ok (.getfield 53, 3) := by decide +kernel
theorem dX9_points_83 : decode cX9_points 83 = .ok (.aload_n 3, 1) := by decide +kernel
theorem dX9_points_84 : decode cX9_points 84 = .ok (.iload 5, 2) := by decide +kernel
theorem dX9_points_86 : decode cX9_points 86 = .ok (.invokevirtual 165, 3) := by decide +kernel
theorem dX9_points_89 : decode cX9_points 89 = .ok (.aload_n 0, 1) := by decide +kernel
theorem dX9_points_90 : decode cX9_points 90 = .ok (.getfield 19, 3) := by decide +kernel
theorem dX9_points_93 : decode cX9_points 93 = .ok (.iload 5, 2) := by decide +kernel
theorem dX9_points_95 : decode cX9_points 95 = .ok (.invokevirtual 168, 3) := by decide +kernel
theorem dX9_points_98 : decode cX9_points 98 = .ok (.invokestatic 171, 3) := by decide +kernel
theorem dX9_points_101 : decode cX9_points 101 = .ok (.iadd, 1) := by decide +kernel
theorem dX9_points_102 : decode cX9_points 102 = .ok (.istore 4, 2) := by decide +kernel
theorem dX9_points_104 : decode cX9_points 104 = .ok (.iinc 5 1, 3) := by decide +kernel
theorem dX9_points_107 : decode cX9_points 107 = .ok (.goto (-60), 3) := by decide +kernel
theorem dX9_points_110 : decode cX9_points 110 = .ok (.iload 4, 2) := by decide +kernel
theorem dX9_points_112 : decode cX9_points 112 = .ok (.ireturn, 1) := by decide +kernel
theorem dX9_slip_0 : decode cX9_slip 0 = .ok (.aload_n 0, 1) := by decide +kernel
theorem dX9_slip_1 : decode cX9_slip 1 = .ok (.iload_n 1, 1) := by decide +kernel
theorem dX9_slip_2 : decode cX9_slip 2 = .ok (.invokevirtual 158, 3) := by decide +kernel
theorem dX9_slip_5 : decode cX9_slip 5 = .ok (.astore 4, 2) := by decide +kernel
theorem dX9_slip_7 : decode cX9_slip 7 = .ok (.aload 4, 2) := by decide +kernel
theorem dX9_slip_9 : decode cX9_slip 9 = .ok (.ifnull 23, 3) := by decide +kernel
theorem dX9_slip_12 : decode cX9_slip 12 = .ok (.aload_n 0, 1) := by decide +kernel
theorem dX9_slip_13 : decode cX9_slip 13 = .ok (.getfield 19, 3) := by decide +kernel
theorem dX9_slip_16 : decode cX9_slip 16 = .ok (.iload_n 2, 1) := by decide +kernel
theorem dX9_slip_17 : decode cX9_slip 17 = .ok (.invokevirtual 113, 3) := by decide +kernel
theorem dX9_slip_20 : decode cX9_slip 20 = .ok (.ifCond .eq 12, 3) := by decide +kernel
theorem dX9_slip_23 : decode cX9_slip 23 = .ok (.iload_n 3, 1) := by decide +kernel
theorem dX9_slip_24 : decode cX9_slip 24 = .ok (.ifCond .lt 8, 3) := by decide +kernel
theorem dX9_slip_27 : decode cX9_slip 27 = .ok (.iload_n 3, 1) := by decide +kernel
theorem dX9_slip_28 : decode cX9_slip 28 = .ok (.iconst 1, 1) := by decide +kernel
theorem dX9_slip_29 : decode cX9_slip 29 = .ok (.if_icmp .le 5, 3) := by decide +kernel
theorem dX9_slip_32 : decode cX9_slip 32 = .ok (.iconst (-1), 1) := by decide +kernel
theorem dX9_slip_33 : decode cX9_slip 33 = .ok (.ireturn, 1) := by decide +kernel
theorem dX9_slip_34 : decode cX9_slip 34 = .ok (.aload_n 0, 1) := by decide +kernel
theorem dX9_slip_35 : decode cX9_slip 35 = .ok (.getfield 53, 3) := by decide +kernel
theorem dX9_slip_38 : decode cX9_slip 38 = .ok (.aload_n 0, 1) := by decide +kernel
theorem dX9_slip_39 : decode cX9_slip 39 = .ok (.iconst 0, 1) := by decide +kernel
theorem dX9_slip_40 : decode cX9_slip 40 = .ok (.invokevirtual 69, 3) := by decide +kernel
theorem dX9_slip_43 : decode cX9_slip 43 = .ok (.aload 4, 2) := by decide +kernel
theorem dX9_slip_45 : decode cX9_slip 45 = .ok (.invokevirtual 161, 3) := by decide +kernel
theorem dX9_slip_48 : decode cX9_slip 48 = .ok (.aload_n 0, 1) := by decide +kernel
theorem dX9_slip_49 : decode cX9_slip 49 = .ok (.getfield 53, 3) := by decide +kernel
theorem dX9_slip_52 : decode cX9_slip 52 = .ok (.aload 4, 2) := by decide +kernel
theorem dX9_slip_54 : decode cX9_slip 54 = .ok (.iload_n 2, 1) := by decide +kernel
theorem dX9_slip_55 : decode cX9_slip 55 = .ok (.invokevirtual 165, 3) := by decide +kernel
theorem dX9_slip_58 : decode cX9_slip 58 = .ok (.iconst 4, 1) := by decide +kernel
theorem dX9_slip_59 : decode cX9_slip 59 = .ok (.if_icmp .eq 5, 3) := by decide +kernel
theorem dX9_slip_62 : decode cX9_slip 62 = .ok (.iconst (-1), 1) := by decide +kernel
theorem dX9_slip_63 : decode cX9_slip 63 = .ok (.ireturn, 1) := by decide +kernel
theorem dX9_slip_64 : decode cX9_slip 64 = .ok (.iload_n 3, 1) := by decide +kernel
theorem dX9_slip_65 : decode cX9_slip 65 = .ok (.ifCond .ne 13, 3) := by decide +kernel
theorem dX9_slip_68 : decode cX9_slip 68 = .ok (.aload_n 0, 1) := by decide +kernel
theorem dX9_slip_69 : decode cX9_slip 69 = .ok (.getfield 53, 3) := by decide +kernel
theorem dX9_slip_72 : decode cX9_slip 72 = .ok (.invokevirtual 174, 3) := by decide +kernel
theorem dX9_slip_75 : decode cX9_slip 75 = .ok (.goto 10, 3) := by decide +kernel
theorem dX9_slip_78 : decode cX9_slip 78 = .ok (.aload_n 0, 1) := by decide +kernel
theorem dX9_slip_79 : decode cX9_slip 79 = .ok (.getfield 53, 3) := by decide +kernel
theorem dX9_slip_82 : decode cX9_slip 82 = .ok (.invokevirtual 177, 3) := by decide +kernel
theorem dX9_slip_85 : decode cX9_slip 85 = .ok (.ireturn, 1) := by decide +kernel
theorem dX9_fault_0 : decode cX9_fault 0 = .ok (.aload_n 0, 1) := by decide +kernel
theorem dX9_fault_1 : decode cX9_fault 1 = .ok (.iload_n 1, 1) := by decide +kernel
theorem dX9_fault_2 : decode cX9_fault 2 = .ok (.invokevirtual 158, 3) := by decide +kernel
theorem dX9_fault_5 : decode cX9_fault 5 = .ok (.astore_n 3, 1) := by decide +kernel
theorem dX9_fault_6 : decode cX9_fault 6 = .ok (.aload_n 3, 1) := by decide +kernel
theorem dX9_fault_7 : decode cX9_fault 7 = .ok (.ifnull 7, 3) := by decide +kernel
theorem dX9_fault_10 : decode cX9_fault 10 = .ok (.iload_n 2, 1) := by decide +kernel
theorem dX9_fault_11 : decode cX9_fault 11 = .ok (.ifCond .ge 5, 3) := by decide +kernel
theorem dX9_fault_14 : decode cX9_fault 14 = .ok (.iconst (-1), 1) := by decide +kernel
theorem dX9_fault_15 : decode cX9_fault 15 = .ok (.ireturn, 1) := by decide +kernel
theorem dX9_fault_16 : decode cX9_fault 16 = .ok (.aload_n 0, 1) := by decide +kernel
theorem dX9_fault_17 : decode cX9_fault 17 = .ok (.getfield 53, 3) := by decide +kernel
theorem dX9_fault_20 : decode cX9_fault 20 = .ok (.aload_n 0, 1) := by decide +kernel
theorem dX9_fault_21 : decode cX9_fault 21 = .ok (.iconst 0, 1) := by decide +kernel
theorem dX9_fault_22 : decode cX9_fault 22 = .ok (.invokevirtual 69, 3) := by decide +kernel
theorem dX9_fault_25 : decode cX9_fault 25 = .ok (.aload_n 3, 1) := by decide +kernel
theorem dX9_fault_26 : decode cX9_fault 26 = .ok (.invokevirtual 161, 3) := by decide +kernel
theorem dX9_fault_29 : decode cX9_fault 29 = .ok (.iconst 0, 1) := by decide +kernel
theorem dX9_fault_30 : decode cX9_fault 30 = .ok (.istore 4, 2) := by decide +kernel
theorem dX9_fault_32 : decode cX9_fault 32 = .ok (.iconst 0, 1) := by decide +kernel
theorem dX9_fault_33 : decode cX9_fault 33 = .ok (.istore 5, 2) := by decide +kernel
theorem dX9_fault_35 : decode cX9_fault 35 = .ok (.iload 5, 2) := by decide +kernel
theorem dX9_fault_37 : decode cX9_fault 37 = .ok (.bipush 64, 2) := by decide +kernel
theorem dX9_fault_39 : decode cX9_fault 39 = .ok (.if_icmp .ge 49, 3) := by decide +kernel
theorem dX9_fault_42 : decode cX9_fault 42 = .ok (.aload_n 0, 1) := by decide +kernel
theorem dX9_fault_43 : decode cX9_fault 43 = .ok (.getfield 19, 3) := by decide +kernel
theorem dX9_fault_46 : decode cX9_fault 46 = .ok (.iload 5, 2) := by decide +kernel
theorem dX9_fault_48 : decode cX9_fault 48 = .ok (.invokevirtual 113, 3) := by decide +kernel
theorem dX9_fault_51 : decode cX9_fault 51 = .ok (.ifCond .eq 31, 3) := by decide +kernel
theorem dX9_fault_54 : decode cX9_fault 54 = .ok (.aload_n 0, 1) := by decide +kernel
theorem dX9_fault_55 : decode cX9_fault 55 = .ok (.getfield 53, 3) := by decide +kernel
theorem dX9_fault_58 : decode cX9_fault 58 = .ok (.aload_n 3, 1) := by decide +kernel
theorem dX9_fault_59 : decode cX9_fault 59 = .ok (.iload 5, 2) := by decide +kernel
theorem dX9_fault_61 : decode cX9_fault 61 = .ok (.invokevirtual 165, 3) := by decide +kernel
theorem dX9_fault_64 : decode cX9_fault 64 = .ok (.invokestatic 180, 3) := by decide +kernel
theorem dX9_fault_67 : decode cX9_fault 67 = .ok (.ifCond .eq 15, 3) := by decide +kernel
theorem dX9_fault_70 : decode cX9_fault 70 = .ok (.iload 4, 2) := by decide +kernel
theorem dX9_fault_72 : decode cX9_fault 72 = .ok (.iload_n 2, 1) := by decide +kernel
theorem dX9_fault_73 : decode cX9_fault 73 = .ok (.if_icmp .ne 6, 3) := by decide +kernel
theorem dX9_fault_76 : decode cX9_fault 76 = .ok (.iload 5, 2) := by decide +kernel
theorem dX9_fault_78 : decode cX9_fault 78 = .ok (.ireturn, 1) := by decide +kernel
theorem dX9_fault_79 : decode cX9_fault 79 = .ok (.iinc 4 1, 3) := by decide +kernel
theorem dX9_fault_82 : decode cX9_fault 82 = .ok (.iinc 5 1, 3) := by decide +kernel
theorem dX9_fault_85 : decode cX9_fault 85 = .ok (.goto (-50), 3) := by decide +kernel
theorem dX9_fault_88 : decode cX9_fault 88 = .ok (.iconst (-1), 1) := by decide +kernel
theorem dX9_fault_89 : decode cX9_fault 89 = .ok (.ireturn, 1) := by decide +kernel
theorem dX9_copied_0 : decode cX9_copied 0 = .ok (.aload_n 0, 1) := by decide +kernel
theorem dX9_copied_1 : decode cX9_copied 1 = .ok (.iload_n 1, 1) := by decide +kernel
theorem dX9_copied_2 : decode cX9_copied 2 = .ok (.invokevirtual 158, 3) := by decide +kernel
theorem dX9_copied_5 : decode cX9_copied 5 = .ok (.astore 4, 2) := by decide +kernel
theorem dX9_copied_7 : decode cX9_copied 7 = .ok (.aload_n 0, 1) := by decide +kernel
theorem dX9_copied_8 : decode cX9_copied 8 = .ok (.iload_n 2, 1) := by decide +kernel
theorem dX9_copied_9 : decode cX9_copied 9 = .ok (.invokevirtual 158, 3) := by decide +kernel
theorem dX9_copied_12 : decode cX9_copied 12 = .ok (.astore 5, 2) := by decide +kernel
theorem dX9_copied_14 : decode cX9_copied 14 = .ok (.aload 4, 2) := by decide +kernel
theorem dX9_copied_16 : decode cX9_copied 16 = .ok (.ifnull 17, 3) := by decide +kernel
theorem dX9_copied_19 : decode cX9_copied 19 = .ok (.aload 5, 2) := by decide +kernel
theorem dX9_copied_21 : decode cX9_copied 21 = .ok (.ifnull 12, 3) := by decide +kernel
theorem dX9_copied_24 : decode cX9_copied 24 = .ok (.iload_n 1, 1) := by decide +kernel
theorem dX9_copied_25 : decode cX9_copied 25 = .ok (.iload_n 2, 1) := by decide +kernel
theorem dX9_copied_26 : decode cX9_copied 26 = .ok (.if_icmp .eq 7, 3) := by decide +kernel
theorem dX9_copied_29 : decode cX9_copied 29 = .ok (.iload_n 3, 1) := by decide +kernel
theorem dX9_copied_30 : decode cX9_copied 30 = .ok (.ifCond .ge 5, 3) := by decide +kernel
theorem dX9_copied_33 : decode cX9_copied 33 = .ok (.iconst (-1), 1) := by decide +kernel
theorem dX9_copied_34 : decode cX9_copied 34 = .ok (.ireturn, 1) := by decide +kernel
theorem dX9_copied_35 : decode cX9_copied 35 = .ok (.iconst 0, 1) := by decide +kernel
theorem dX9_copied_36 : decode cX9_copied 36 = .ok (.istore 6, 2) := by decide +kernel
theorem dX9_copied_38 : decode cX9_copied 38 = .ok (.iconst 0, 1) := by decide +kernel
theorem dX9_copied_39 : decode cX9_copied 39 = .ok (.istore 7, 2) := by decide +kernel
theorem dX9_copied_41 : decode cX9_copied 41 = .ok (.iload 7, 2) := by decide +kernel
theorem dX9_copied_43 : decode cX9_copied 43 = .ok (.bipush 64, 2) := by decide +kernel
theorem dX9_copied_45 : decode cX9_copied 45 = .ok (.if_icmp .ge 46, 3) := by decide +kernel
theorem dX9_copied_48 : decode cX9_copied 48 = .ok (.aload_n 0, 1) := by decide +kernel
theorem dX9_copied_49 : decode cX9_copied 49 = .ok (.getfield 19, 3) := by decide +kernel
theorem dX9_copied_52 : decode cX9_copied 52 = .ok (.iload 7, 2) := by decide +kernel
theorem dX9_copied_54 : decode cX9_copied 54 = .ok (.invokevirtual 110, 3) := by decide +kernel
theorem dX9_copied_57 : decode cX9_copied 57 = .ok (.ifCond .ne 28, 3) := by decide +kernel
theorem dX9_copied_60 : decode cX9_copied 60 = .ok (.aload_n 0, 1) := by decide +kernel
theorem dX9_copied_61 : decode cX9_copied 61 = .ok (.aload 4, 2) := by decide +kernel
theorem dX9_copied_63 : decode cX9_copied 63 = .ok (.aload 5, 2) := by decide +kernel
theorem dX9_copied_65 : decode cX9_copied 65 = .ok (.iload 7, 2) := by decide +kernel
theorem dX9_copied_67 : decode cX9_copied 67 = .ok (.invokevirtual 183, 3) := by decide +kernel
theorem dX9_copied_70 : decode cX9_copied 70 = .ok (.ifCond .eq 15, 3) := by decide +kernel
theorem dX9_copied_73 : decode cX9_copied 73 = .ok (.iload 6, 2) := by decide +kernel
theorem dX9_copied_75 : decode cX9_copied 75 = .ok (.iload_n 3, 1) := by decide +kernel
theorem dX9_copied_76 : decode cX9_copied 76 = .ok (.if_icmp .ne 6, 3) := by decide +kernel
theorem dX9_copied_79 : decode cX9_copied 79 = .ok (.iload 7, 2) := by decide +kernel
theorem dX9_copied_81 : decode cX9_copied 81 = .ok (.ireturn, 1) := by decide +kernel
theorem dX9_copied_82 : decode cX9_copied 82 = .ok (.iinc 6 1, 3) := by decide +kernel
theorem dX9_copied_85 : decode cX9_copied 85 = .ok (.iinc 7 1, 3) := by decide +kernel
theorem dX9_copied_88 : decode cX9_copied 88 = .ok (.goto (-47), 3) := by decide +kernel
theorem dX9_copied_91 : decode cX9_copied 91 = .ok (.iconst (-1), 1) := by decide +kernel
theorem dX9_copied_92 : decode cX9_copied 92 = .ok (.ireturn, 1) := by decide +kernel
theorem dX9_look_0 : decode cX9_look 0 = .ok (.aload_n 0, 1) := by decide +kernel
theorem dX9_look_1 : decode cX9_look 1 = .ok (.iload_n 1, 1) := by decide +kernel
theorem dX9_look_2 : decode cX9_look 2 = .ok (.invokevirtual 69, 3) := by decide +kernel
theorem dX9_look_5 : decode cX9_look 5 = .ok (.astore 4, 2) := by decide +kernel
theorem dX9_look_7 : decode cX9_look 7 = .ok (.aload 4, 2) := by decide +kernel
theorem dX9_look_9 : decode cX9_look 9 = .ok (.ifnull 10, 3) := by decide +kernel
theorem dX9_look_12 : decode cX9_look 12 = .ok (.iload_n 2, 1) := by decide +kernel
theorem dX9_look_13 : decode cX9_look 13 = .ok (.invokestatic 73, 3) := by decide +kernel
theorem dX9_look_16 : decode cX9_look 16 = .ok (.ifCond .ne 5, 3) := by decide +kernel
theorem dX9_look_19 : decode cX9_look 19 = .ok (.iconst (-1), 1) := by decide +kernel
theorem dX9_look_20 : decode cX9_look 20 = .ok (.ireturn, 1) := by decide +kernel
theorem dX9_look_21 : decode cX9_look 21 = .ok (.iload_n 3, 1) := by decide +kernel
theorem dX9_look_22 : decode cX9_look 22 = .ok (.ifCond .ne 10, 3) := by decide +kernel
theorem dX9_look_25 : decode cX9_look 25 = .ok (.aload 4, 2) := by decide +kernel
theorem dX9_look_27 : decode cX9_look 27 = .ok (.iload_n 2, 1) := by decide +kernel
theorem dX9_look_28 : decode cX9_look 28 = .ok (.invokevirtual 103, 3) := by decide +kernel
theorem dX9_look_31 : decode cX9_look 31 = .ok (.ireturn, 1) := by decide +kernel
theorem dX9_look_32 : decode cX9_look 32 = .ok (.iload_n 3, 1) := by decide +kernel
theorem dX9_look_33 : decode cX9_look 33 = .ok (.iconst 2, 1) := by decide +kernel
theorem dX9_look_34 : decode cX9_look 34 = .ok (.if_icmp .ne 11, 3) := by decide +kernel
theorem dX9_look_37 : decode cX9_look 37 = .ok (.aload_n 0, 1) := by decide +kernel
theorem dX9_look_38 : decode cX9_look 38 = .ok (.aload 4, 2) := by decide +kernel
theorem dX9_look_40 : decode cX9_look 40 = .ok (.iload_n 2, 1) := by decide +kernel
theorem dX9_look_41 : decode cX9_look 41 = .ok (.invokevirtual 187, 3) := by decide +kernel
theorem dX9_look_44 : decode cX9_look 44 = .ok (.ireturn, 1) := by decide +kernel
theorem dX9_look_45 : decode cX9_look 45 = .ok (.aload 4, 2) := by decide +kernel
theorem dX9_look_47 : decode cX9_look 47 = .ok (.iload_n 2, 1) := by decide +kernel
theorem dX9_look_48 : decode cX9_look 48 = .ok (.invokevirtual 190, 3) := by decide +kernel
theorem dX9_look_51 : decode cX9_look 51 = .ok (.astore 5, 2) := by decide +kernel
theorem dX9_look_53 : decode cX9_look 53 = .ok (.iload_n 3, 1) := by decide +kernel
theorem dX9_look_54 : decode cX9_look 54 = .ok (.iconst 1, 1) := by decide +kernel
theorem dX9_look_55 : decode cX9_look 55 = .ok (.if_icmp .ne 23, 3) := by decide +kernel
theorem dX9_look_58 : decode cX9_look 58 = .ok (.aload 5, 2) := by decide +kernel
theorem dX9_look_60 : decode cX9_look 60 = .ok (.ifnull 11, 3) := by decide +kernel
theorem dX9_look_63 : decode cX9_look 63 = .ok (.aload 5, 2) := by decide +kernel
theorem dX9_look_65 : decode cX9_look 65 = .ok (.invokevirtual 194, 3) := by decide +kernel
theorem dX9_look_68 : decode cX9_look 68 = .ok (.goto 9, 3) := by decide +kernel
theorem dX9_look_71 : decode cX9_look 71 = .ok (.aload 4, 2) := by decide +kernel
theorem dX9_look_73 : decode cX9_look 73 = .ok (.iload_n 2, 1) := by decide +kernel
theorem dX9_look_74 : decode cX9_look 74 = .ok (.invokevirtual 195, 3) := by decide +kernel
theorem dX9_look_77 : decode cX9_look 77 = .ok (.ireturn, 1) := by decide +kernel
theorem dX9_look_78 : decode cX9_look 78 = .ok (.aload 5, 2) := by decide +kernel
theorem dX9_look_80 : decode cX9_look 80 = .ok (.ifnull 21, 3) := by decide +kernel
theorem dX9_look_83 : decode cX9_look 83 = .ok (.iload_n 3, 1) := by decide +kernel
theorem dX9_look_84 : decode cX9_look 84 = .ok (.bipush 10, 2) := by decide +kernel
theorem dX9_look_86 : decode cX9_look 86 = .ok (.if_icmp .lt 15, 3) := by decide +kernel
theorem dX9_look_89 : decode cX9_look 89 = .ok (.aload 5, 2) := by decide +kernel
theorem dX9_look_91 : decode cX9_look 91 = .ok (.iload_n 3, 1) := by decide +kernel
theorem dX9_look_92 : decode cX9_look 92 = .ok (.bipush 10, 2) := by decide +kernel
theorem dX9_look_94 : decode cX9_look 94 = .ok (.isub, 1) := by decide +kernel
theorem dX9_look_95 : decode cX9_look 95 = .ok (.invokevirtual 198, 3) := by decide +kernel
theorem dX9_look_98 : decode cX9_look 98 = .ok (.goto 4, 3) := by decide +kernel
theorem dX9_look_101 : decode cX9_look 101 = .ok (.iconst (-1), 1) := by decide +kernel
theorem dX9_look_102 : decode cX9_look 102 = .ok (.ireturn, 1) := by decide +kernel
theorem dX9_count_0 : decode cX9_count 0 = .ok (.iload_n 1, 1) := by decide +kernel
theorem dX9_count_1 : decode cX9_count 1 = .ok (.bipush 100, 2) := by decide +kernel
theorem dX9_count_3 : decode cX9_count 3 = .ok (.if_icmp .lt 22, 3) := by decide +kernel
theorem dX9_count_6 : decode cX9_count 6 = .ok (.iload_n 1, 1) := by decide +kernel
theorem dX9_count_7 : decode cX9_count 7 = .ok (.sipush 164, 3) := by decide +kernel
theorem dX9_count_10 : decode cX9_count 10 = .ok (.if_icmp .ge 15, 3) := by decide +kernel
theorem dX9_count_13 : decode cX9_count 13 = .ok (.aload_n 0, 1) := by decide +kernel
theorem dX9_count_14 : decode cX9_count 14 = .ok (.getfield 19, 3) := by decide +kernel
theorem dX9_count_17 : decode cX9_count 17 = .ok (.iload_n 1, 1) := by decide +kernel
theorem dX9_count_18 : decode cX9_count 18 = .ok (.bipush 100, 2) := by decide +kernel
theorem dX9_count_20 : decode cX9_count 20 = .ok (.isub, 1) := by decide +kernel
theorem dX9_count_21 : decode cX9_count 21 = .ok (.invokevirtual 168, 3) := by decide +kernel
theorem dX9_count_24 : decode cX9_count 24 = .ok (.ireturn, 1) := by decide +kernel
theorem dX9_count_25 : decode cX9_count 25 = .ok (.iload_n 1, 1) := by decide +kernel
theorem dX9_count_26 : decode cX9_count 26 = .ok (.tableswitch 74 0 4 #[34, 42, 50, 58, 66], 34) := by decide +kernel
theorem dX9_count_60 : decode cX9_count 60 = .ok (.aload_n 0, 1) := by decide +kernel
theorem dX9_count_61 : decode cX9_count 61 = .ok (.getfield 19, 3) := by decide +kernel
theorem dX9_count_64 : decode cX9_count 64 = .ok (.invokevirtual 116, 3) := by decide +kernel
theorem dX9_count_67 : decode cX9_count 67 = .ok (.ireturn, 1) := by decide +kernel
theorem dX9_count_68 : decode cX9_count 68 = .ok (.aload_n 0, 1) := by decide +kernel
theorem dX9_count_69 : decode cX9_count 69 = .ok (.getfield 19, 3) := by decide +kernel
theorem dX9_count_72 : decode cX9_count 72 = .ok (.invokevirtual 122, 3) := by decide +kernel
theorem dX9_count_75 : decode cX9_count 75 = .ok (.ireturn, 1) := by decide +kernel
theorem dX9_count_76 : decode cX9_count 76 = .ok (.aload_n 0, 1) := by decide +kernel
theorem dX9_count_77 : decode cX9_count 77 = .ok (.getfield 19, 3) := by decide +kernel
theorem dX9_count_80 : decode cX9_count 80 = .ok (.invokevirtual 128, 3) := by decide +kernel
theorem dX9_count_83 : decode cX9_count 83 = .ok (.ireturn, 1) := by decide +kernel
theorem dX9_count_84 : decode cX9_count 84 = .ok (.aload_n 0, 1) := by decide +kernel
theorem dX9_count_85 : decode cX9_count 85 = .ok (.getfield 19, 3) := by decide +kernel
theorem dX9_count_88 : decode cX9_count 88 = .ok (.invokevirtual 201, 3) := by decide +kernel
theorem dX9_count_91 : decode cX9_count 91 = .ok (.ireturn, 1) := by decide +kernel
theorem dX9_count_92 : decode cX9_count 92 = .ok (.aload_n 0, 1) := by decide +kernel
theorem dX9_count_93 : decode cX9_count 93 = .ok (.getfield 10, 3) := by decide +kernel
theorem dX9_count_96 : decode cX9_count 96 = .ok (.invokevirtual 65, 3) := by decide +kernel
theorem dX9_count_99 : decode cX9_count 99 = .ok (.ireturn, 1) := by decide +kernel
theorem dX9_count_100 : decode cX9_count 100 = .ok (.iconst (-1), 1) := by decide +kernel
theorem dX9_count_101 : decode cX9_count 101 = .ok (.ireturn, 1) := by decide +kernel
theorem dX9_sheetAt_0 : decode cX9_sheetAt 0 = .ok (.iload_n 1, 1) := by decide +kernel
theorem dX9_sheetAt_1 : decode cX9_sheetAt 1 = .ok (.ifCond .lt 21, 3) := by decide +kernel
theorem dX9_sheetAt_4 : decode cX9_sheetAt 4 = .ok (.iload_n 1, 1) := by decide +kernel
theorem dX9_sheetAt_5 : decode cX9_sheetAt 5 = .ok (.aload_n 0, 1) := by decide +kernel
theorem dX9_sheetAt_6 : decode cX9_sheetAt 6 = .ok (.getfield 25, 3) := by decide +kernel
theorem dX9_sheetAt_9 : decode cX9_sheetAt 9 = .ok (.arraylength, 1) := by decide +kernel
theorem dX9_sheetAt_10 : decode cX9_sheetAt 10 = .ok (.if_icmp .ge 12, 3) := by decide +kernel
theorem dX9_sheetAt_13 : decode cX9_sheetAt 13 = .ok (.aload_n 0, 1) := by decide +kernel
theorem dX9_sheetAt_14 : decode cX9_sheetAt 14 = .ok (.getfield 25, 3) := by decide +kernel
theorem dX9_sheetAt_17 : decode cX9_sheetAt 17 = .ok (.iload_n 1, 1) := by decide +kernel
theorem dX9_sheetAt_18 : decode cX9_sheetAt 18 = .ok (.aaload, 1) := by decide +kernel
theorem dX9_sheetAt_19 : decode cX9_sheetAt 19 = .ok (.goto 4, 3) := by decide +kernel
theorem dX9_sheetAt_22 : decode cX9_sheetAt 22 = .ok (.aconst_null, 1) := by decide +kernel
theorem dX9_sheetAt_23 : decode cX9_sheetAt 23 = .ok (.areturn, 1) := by decide +kernel
theorem dX9_pupilAt_0 : decode cX9_pupilAt 0 = .ok (.iload_n 1, 1) := by decide +kernel
theorem dX9_pupilAt_1 : decode cX9_pupilAt 1 = .ok (.ifCond .ne 7, 3) := by decide +kernel
theorem dX9_pupilAt_4 : decode cX9_pupilAt 4 = .ok (.aconst_null, 1) := by decide +kernel
theorem dX9_pupilAt_5 : decode cX9_pupilAt 5 = .ok (.goto 8, 3) := by decide +kernel
theorem dX9_pupilAt_8 : decode cX9_pupilAt 8 = .ok (.aload_n 0, 1) := by decide +kernel
theorem dX9_pupilAt_9 : decode cX9_pupilAt 9 = .ok (.iload_n 1, 1) := by decide +kernel
theorem dX9_pupilAt_10 : decode cX9_pupilAt 10 = .ok (.invokevirtual 69, 3) := by decide +kernel
theorem dX9_pupilAt_13 : decode cX9_pupilAt 13 = .ok (.areturn, 1) := by decide +kernel
theorem dX9_reckonsOwn_0 : decode cX9_reckonsOwn 0 = .ok (.aload_n 0, 1) := by decide +kernel
theorem dX9_reckonsOwn_1 : decode cX9_reckonsOwn 1 = .ok (.iload_n 1, 1) := by decide +kernel
theorem dX9_reckonsOwn_2 : decode cX9_reckonsOwn 2 = .ok (.invokevirtual 69, 3) := by decide +kernel
theorem dX9_reckonsOwn_5 : decode cX9_reckonsOwn 5 = .ok (.astore 4, 2) := by decide +kernel
theorem dX9_reckonsOwn_7 : decode cX9_reckonsOwn 7 = .ok (.aload 4, 2) := by decide +kernel
theorem dX9_reckonsOwn_9 : decode cX9_reckonsOwn 9 = .ok (.ifnull 21, 3) := by decide +kernel
theorem dX9_reckonsOwn_12 : decode cX9_reckonsOwn 12 = .ok (.iload_n 2, 1) := by decide +kernel
theorem dX9_reckonsOwn_13 : decode cX9_reckonsOwn 13 = .ok (.invokestatic 73, 3) := by decide +kernel
theorem dX9_reckonsOwn_16 : decode cX9_reckonsOwn 16 = .ok (.ifCond .eq 14, 3) := by decide +kernel
theorem dX9_reckonsOwn_19 : decode cX9_reckonsOwn 19 = .ok (.aload_n 0, 1) := by decide +kernel
theorem dX9_reckonsOwn_20 : decode cX9_reckonsOwn 20 = .ok (.getfield 19, 3) := by decide +kernel
theorem dX9_reckonsOwn_23 : decode cX9_reckonsOwn 23 = .ok (.iload_n 3, 1) := by decide +kernel
theorem dX9_reckonsOwn_24 : decode cX9_reckonsOwn 24 = .ok (.invokevirtual 134, 3) := by decide +kernel
theorem dX9_reckonsOwn_27 : decode cX9_reckonsOwn 27 = .ok (.ifCond .ne 5, 3) := by decide +kernel
theorem dX9_reckonsOwn_30 : decode cX9_reckonsOwn 30 = .ok (.iconst 0, 1) := by decide +kernel
theorem dX9_reckonsOwn_31 : decode cX9_reckonsOwn 31 = .ok (.ireturn, 1) := by decide +kernel
theorem dX9_reckonsOwn_32 : decode cX9_reckonsOwn 32 = .ok (.aload_n 0, 1) := by decide +kernel
theorem dX9_reckonsOwn_33 : decode cX9_reckonsOwn 33 = .ok (.getfield 42, 3) := by decide +kernel
theorem dX9_reckonsOwn_36 : decode cX9_reckonsOwn 36 = .ok (.aload 4, 2) := by decide +kernel
theorem dX9_reckonsOwn_38 : decode cX9_reckonsOwn 38 = .ok (.invokevirtual 204, 3) := by decide +kernel
theorem dX9_reckonsOwn_41 : decode cX9_reckonsOwn 41 = .ok (.iconst 1, 1) := by decide +kernel
theorem dX9_reckonsOwn_42 : decode cX9_reckonsOwn 42 = .ok (.ireturn, 1) := by decide +kernel
theorem dX9_reckonsRight_0 : decode cX9_reckonsRight 0 = .ok (.aload_n 0, 1) := by decide +kernel
theorem dX9_reckonsRight_1 : decode cX9_reckonsRight 1 = .ok (.iload_n 1, 1) := by decide +kernel
theorem dX9_reckonsRight_2 : decode cX9_reckonsRight 2 = .ok (.invokevirtual 69, 3) := by decide +kernel
theorem dX9_reckonsRight_5 : decode cX9_reckonsRight 5 = .ok (.astore 4, 2) := by decide +kernel
theorem dX9_reckonsRight_7 : decode cX9_reckonsRight 7 = .ok (.aload_n 0, 1) := by decide +kernel
theorem dX9_reckonsRight_8 : decode cX9_reckonsRight 8 = .ok (.iconst 0, 1) := by decide +kernel
theorem dX9_reckonsRight_9 : decode cX9_reckonsRight 9 = .ok (.invokevirtual 69, 3) := by decide +kernel
theorem dX9_reckonsRight_12 : decode cX9_reckonsRight 12 = .ok (.astore 5, 2) := by decide +kernel
theorem dX9_reckonsRight_14 : decode cX9_reckonsRight 14 = .ok (.aload 4, 2) := by decide +kernel
theorem dX9_reckonsRight_16 : decode cX9_reckonsRight 16 = .ok (.ifnull 26, 3) := by decide +kernel
theorem dX9_reckonsRight_19 : decode cX9_reckonsRight 19 = .ok (.aload 5, 2) := by decide +kernel
theorem dX9_reckonsRight_21 : decode cX9_reckonsRight 21 = .ok (.ifnull 21, 3) := by decide +kernel
theorem dX9_reckonsRight_24 : decode cX9_reckonsRight 24 = .ok (.iload_n 2, 1) := by decide +kernel
theorem dX9_reckonsRight_25 : decode cX9_reckonsRight 25 = .ok (.invokestatic 73, 3) := by decide +kernel
theorem dX9_reckonsRight_28 : decode cX9_reckonsRight 28 = .ok (.ifCond .eq 14, 3) := by decide +kernel
theorem dX9_reckonsRight_31 : decode cX9_reckonsRight 31 = .ok (.aload_n 0, 1) := by decide +kernel
theorem dX9_reckonsRight_32 : decode cX9_reckonsRight 32 = .ok (.getfield 19, 3) := by decide +kernel
theorem dX9_reckonsRight_35 : decode cX9_reckonsRight 35 = .ok (.iload_n 3, 1) := by decide +kernel
theorem dX9_reckonsRight_36 : decode cX9_reckonsRight 36 = .ok (.invokevirtual 134, 3) := by decide +kernel
theorem dX9_reckonsRight_39 : decode cX9_reckonsRight 39 = .ok (.ifCond .ne 5, 3) := by decide +kernel
theorem dX9_reckonsRight_42 : decode cX9_reckonsRight 42 = .ok (.iconst 0, 1) := by decide +kernel
theorem dX9_reckonsRight_43 : decode cX9_reckonsRight 43 = .ok (.ireturn, 1) := by decide +kernel
theorem dX9_reckonsRight_44 : decode cX9_reckonsRight 44 = .ok (.aload_n 0, 1) := by decide +kernel
theorem dX9_reckonsRight_45 : decode cX9_reckonsRight 45 = .ok (.getfield 38, 3) := by decide +kernel
theorem dX9_reckonsRight_48 : decode cX9_reckonsRight 48 = .ok (.aload 5, 2) := by decide +kernel
theorem dX9_reckonsRight_50 : decode cX9_reckonsRight 50 = .ok (.invokevirtual 204, 3) := by decide +kernel
theorem dX9_reckonsRight_53 : decode cX9_reckonsRight 53 = .ok (.aload_n 0, 1) := by decide +kernel
theorem dX9_reckonsRight_54 : decode cX9_reckonsRight 54 = .ok (.getfield 45, 3) := by decide +kernel
theorem dX9_reckonsRight_57 : decode cX9_reckonsRight 57 = .ok (.aload 4, 2) := by decide +kernel
theorem dX9_reckonsRight_59 : decode cX9_reckonsRight 59 = .ok (.iload_n 2, 1) := by decide +kernel
theorem dX9_reckonsRight_60 : decode cX9_reckonsRight 60 = .ok (.aload_n 0, 1) := by decide +kernel
theorem dX9_reckonsRight_61 : decode cX9_reckonsRight 61 = .ok (.getfield 38, 3) := by decide +kernel
theorem dX9_reckonsRight_64 : decode cX9_reckonsRight 64 = .ok (.invokevirtual 208, 3) := by decide +kernel
theorem dX9_reckonsRight_67 : decode cX9_reckonsRight 67 = .ok (.iconst 1, 1) := by decide +kernel
theorem dX9_reckonsRight_68 : decode cX9_reckonsRight 68 = .ok (.ireturn, 1) := by decide +kernel
theorem dX9_isShared_0 : decode cX9_isShared 0 = .ok (.aload_n 0, 1) := by decide +kernel
theorem dX9_isShared_1 : decode cX9_isShared 1 = .ok (.iconst 0, 1) := by decide +kernel
theorem dX9_isShared_2 : decode cX9_isShared 2 = .ok (.invokevirtual 69, 3) := by decide +kernel
theorem dX9_isShared_5 : decode cX9_isShared 5 = .ok (.astore 4, 2) := by decide +kernel
theorem dX9_isShared_7 : decode cX9_isShared 7 = .ok (.aload_n 1, 1) := by decide +kernel
theorem dX9_isShared_8 : decode cX9_isShared 8 = .ok (.iload_n 3, 1) := by decide +kernel
theorem dX9_isShared_9 : decode cX9_isShared 9 = .ok (.invokevirtual 190, 3) := by decide +kernel
theorem dX9_isShared_12 : decode cX9_isShared 12 = .ok (.astore 5, 2) := by decide +kernel
theorem dX9_isShared_14 : decode cX9_isShared 14 = .ok (.aload 4, 2) := by decide +kernel
theorem dX9_isShared_16 : decode cX9_isShared 16 = .ok (.ifnull 21, 3) := by decide +kernel
theorem dX9_isShared_19 : decode cX9_isShared 19 = .ok (.aload 5, 2) := by decide +kernel
theorem dX9_isShared_21 : decode cX9_isShared 21 = .ok (.ifnull 16, 3) := by decide +kernel
theorem dX9_isShared_24 : decode cX9_isShared 24 = .ok (.aload 5, 2) := by decide +kernel
theorem dX9_isShared_26 : decode cX9_isShared 26 = .ok (.aload_n 2, 1) := by decide +kernel
theorem dX9_isShared_27 : decode cX9_isShared 27 = .ok (.iload_n 3, 1) := by decide +kernel
theorem dX9_isShared_28 : decode cX9_isShared 28 = .ok (.invokevirtual 190, 3) := by decide +kernel
theorem dX9_isShared_31 : decode cX9_isShared 31 = .ok (.invokevirtual 212, 3) := by decide +kernel
theorem dX9_isShared_34 : decode cX9_isShared 34 = .ok (.ifCond .ne 5, 3) := by decide +kernel
theorem dX9_isShared_37 : decode cX9_isShared 37 = .ok (.iconst 0, 1) := by decide +kernel
theorem dX9_isShared_38 : decode cX9_isShared 38 = .ok (.ireturn, 1) := by decide +kernel
theorem dX9_isShared_39 : decode cX9_isShared 39 = .ok (.aload 5, 2) := by decide +kernel
theorem dX9_isShared_41 : decode cX9_isShared 41 = .ok (.aload 4, 2) := by decide +kernel
theorem dX9_isShared_43 : decode cX9_isShared 43 = .ok (.iload_n 3, 1) := by decide +kernel
theorem dX9_isShared_44 : decode cX9_isShared 44 = .ok (.invokevirtual 190, 3) := by decide +kernel
theorem dX9_isShared_47 : decode cX9_isShared 47 = .ok (.invokevirtual 212, 3) := by decide +kernel
theorem dX9_isShared_50 : decode cX9_isShared 50 = .ok (.ifCond .ne 7, 3) := by decide +kernel
theorem dX9_isShared_53 : decode cX9_isShared 53 = .ok (.iconst 1, 1) := by decide +kernel
theorem dX9_isShared_54 : decode cX9_isShared 54 = .ok (.goto 4, 3) := by decide +kernel
theorem dX9_isShared_57 : decode cX9_isShared 57 = .ok (.iconst 0, 1) := by decide +kernel
theorem dX9_isShared_58 : decode cX9_isShared 58 = .ok (.ireturn, 1) := by decide +kernel
theorem dX9_countComing_0 : decode cX9_countComing 0 = .ok (.lconst 0, 1) := by decide +kernel
theorem dX9_countComing_1 : decode cX9_countComing 1 = .ok (.lstore_n 3, 1) := by decide +kernel
theorem dX9_countComing_2 : decode cX9_countComing 2 = .ok (.iconst 0, 1) := by decide +kernel
theorem dX9_countComing_3 : decode cX9_countComing 3 = .ok (.istore 5, 2) := by decide +kernel
theorem dX9_countComing_5 : decode cX9_countComing 5 = .ok (.iload 5, 2) := by decide +kernel
theorem dX9_countComing_7 : decode cX9_countComing 7 = .ok (.bipush 64, 2) := by decide +kernel
theorem dX9_countComing_9 : decode cX9_countComing 9 = .ok (.if_icmp .ge 76, 3) := by decide +kernel
theorem dX9_countComing_12 : decode cX9_countComing 12 = .ok (.lload_n 3, 1) := by decide +kernel
theorem dX9_countComing_13 : decode cX9_countComing 13 = .ok (.lstore 6, 2) := by decide +kernel
theorem dX9_countComing_15 : decode cX9_countComing 15 = .ok (.iconst 0, 1) := by decide +kernel
theorem dX9_countComing_16 : decode cX9_countComing 16 = .ok (.istore 8, 2) := by decide +kernel
theorem dX9_countComing_18 : decode cX9_countComing 18 = .ok (.iload 8, 2) := by decide +kernel
theorem dX9_countComing_20 : decode cX9_countComing 20 = .ok (.bipush 64, 2) := by decide +kernel
theorem dX9_countComing_22 : decode cX9_countComing 22 = .ok (.if_icmp .ge 47, 3) := by decide +kernel
theorem dX9_countComing_25 : decode cX9_countComing 25 = .ok (.aload_n 0, 1) := by decide +kernel
theorem dX9_countComing_26 : decode cX9_countComing 26 = .ok (.getfield 19, 3) := by decide +kernel
theorem dX9_countComing_29 : decode cX9_countComing 29 = .ok (.iload 8, 2) := by decide +kernel
theorem dX9_countComing_31 : decode cX9_countComing 31 = .ok (.invokevirtual 110, 3) := by decide +kernel
theorem dX9_countComing_34 : decode cX9_countComing 34 = .ok (.ifCond .ne 29, 3) := by decide +kernel
theorem dX9_countComing_37 : decode cX9_countComing 37 = .ok (.aload_n 1, 1) := by decide +kernel
theorem dX9_countComing_38 : decode cX9_countComing 38 = .ok (.iload 8, 2) := by decide +kernel
theorem dX9_countComing_40 : decode cX9_countComing 40 = .ok (.invokevirtual 216, 3) := by decide +kernel
theorem dX9_countComing_43 : decode cX9_countComing 43 = .ok (.lload_n 3, 1) := by decide +kernel
theorem dX9_countComing_44 : decode cX9_countComing 44 = .ok (.iload_n 2, 1) := by decide +kernel
theorem dX9_countComing_45 : decode cX9_countComing 45 = .ok (.invokestatic 220, 3) := by decide +kernel
theorem dX9_countComing_48 : decode cX9_countComing 48 = .ok (.lor, 1) := by decide +kernel
theorem dX9_countComing_49 : decode cX9_countComing 49 = .ok (.land, 1) := by decide +kernel
theorem dX9_countComing_50 : decode cX9_countComing 50 = .ok (.lconst 0, 1) := by decide +kernel
theorem dX9_countComing_51 : decode cX9_countComing 51 = .ok (.lcmp, 1) := by decide +kernel
theorem dX9_countComing_52 : decode cX9_countComing 52 = .ok (.ifCond .eq 11, 3) := by decide +kernel
theorem dX9_countComing_55 : decode cX9_countComing 55 = .ok (.lload_n 3, 1) := by decide +kernel
theorem dX9_countComing_56 : decode cX9_countComing 56 = .ok (.iload 8, 2) := by decide +kernel
theorem dX9_countComing_58 : decode cX9_countComing 58 = .ok (.invokestatic 220, 3) := by decide +kernel
theorem dX9_countComing_61 : decode cX9_countComing 61 = .ok (.lor, 1) := by decide +kernel
theorem dX9_countComing_62 : decode cX9_countComing 62 = .ok (.lstore_n 3, 1) := by decide +kernel
theorem dX9_countComing_63 : decode cX9_countComing 63 = .ok (.iinc 8 1, 3) := by decide +kernel
theorem dX9_countComing_66 : decode cX9_countComing 66 = .ok (.goto (-48), 3) := by decide +kernel
theorem dX9_countComing_69 : decode cX9_countComing 69 = .ok (.lload_n 3, 1) := by decide +kernel
theorem dX9_countComing_70 : decode cX9_countComing 70 = .ok (.lload 6, 2) := by decide +kernel
theorem dX9_countComing_72 : decode cX9_countComing 72 = .ok (.lcmp, 1) := by decide +kernel
theorem dX9_countComing_73 : decode cX9_countComing 73 = .ok (.ifCond .ne 6, 3) := by decide +kernel
theorem dX9_countComing_76 : decode cX9_countComing 76 = .ok (.goto 9, 3) := by decide +kernel
theorem dX9_countComing_79 : decode cX9_countComing 79 = .ok (.iinc 5 1, 3) := by decide +kernel
theorem dX9_countComing_82 : decode cX9_countComing 82 = .ok (.goto (-77), 3) := by decide +kernel
theorem dX9_countComing_85 : decode cX9_countComing 85 = .ok (.lload_n 3, 1) := by decide +kernel
theorem dX9_countComing_86 : decode cX9_countComing 86 = .ok (.invokestatic 223, 3) := by decide +kernel
theorem dX9_countComing_89 : decode cX9_countComing 89 = .ok (.ireturn, 1) := by decide +kernel
theorem dX9_share_0 : decode cX9_share 0 = .ok (.iload_n 0, 1) := by decide +kernel
theorem dX9_share_1 : decode cX9_share 1 = .ok (.tableswitch 41 1 4 #[31, 37, 31, 33], 31) := by decide +kernel
theorem dX9_share_32 : decode cX9_share 32 = .ok (.iload_n 1, 1) := by decide +kernel
theorem dX9_share_33 : decode cX9_share 33 = .ok (.ireturn, 1) := by decide +kernel
theorem dX9_share_34 : decode cX9_share 34 = .ok (.iload_n 1, 1) := by decide +kernel
theorem dX9_share_35 : decode cX9_share 35 = .ok (.iconst 2, 1) := by decide +kernel
theorem dX9_share_36 : decode cX9_share 36 = .ok (.idiv, 1) := by decide +kernel
theorem dX9_share_37 : decode cX9_share 37 = .ok (.ireturn, 1) := by decide +kernel
theorem dX9_share_38 : decode cX9_share 38 = .ok (.iload_n 1, 1) := by decide +kernel
theorem dX9_share_39 : decode cX9_share 39 = .ok (.iconst 4, 1) := by decide +kernel
theorem dX9_share_40 : decode cX9_share 40 = .ok (.idiv, 1) := by decide +kernel
theorem dX9_share_41 : decode cX9_share 41 = .ok (.ireturn, 1) := by decide +kernel
theorem dX9_share_42 : decode cX9_share 42 = .ok (.iconst 0, 1) := by decide +kernel
theorem dX9_share_43 : decode cX9_share 43 = .ok (.ireturn, 1) := by decide +kernel
theorem dX9_isFaulty_0 : decode cX9_isFaulty 0 = .ok (.iload_n 0, 1) := by decide +kernel
theorem dX9_isFaulty_1 : decode cX9_isFaulty 1 = .ok (.iconst 1, 1) := by decide +kernel
theorem dX9_isFaulty_2 : decode cX9_isFaulty 2 = .ok (.if_icmp .eq 12, 3) := by decide +kernel
theorem dX9_isFaulty_5 : decode cX9_isFaulty 5 = .ok (.iload_n 0, 1) := by decide +kernel
theorem dX9_isFaulty_6 : decode cX9_isFaulty 6 = .ok (.iconst 3, 1) := by decide +kernel
theorem dX9_isFaulty_7 : decode cX9_isFaulty 7 = .ok (.if_icmp .eq 7, 3) := by decide +kernel
theorem dX9_isFaulty_10 : decode cX9_isFaulty 10 = .ok (.iconst 1, 1) := by decide +kernel
theorem dX9_isFaulty_11 : decode cX9_isFaulty 11 = .ok (.goto 4, 3) := by decide +kernel
theorem dX9_isFaulty_14 : decode cX9_isFaulty 14 = .ok (.iconst 0, 1) := by decide +kernel
theorem dX9_isFaulty_15 : decode cX9_isFaulty 15 = .ok (.ireturn, 1) := by decide +kernel
theorem dX9_isCell_0 : decode cX9_isCell 0 = .ok (.iload_n 0, 1) := by decide +kernel
theorem dX9_isCell_1 : decode cX9_isCell 1 = .ok (.ifCond .lt 13, 3) := by decide +kernel
theorem dX9_isCell_4 : decode cX9_isCell 4 = .ok (.iload_n 0, 1) := by decide +kernel
theorem dX9_isCell_5 : decode cX9_isCell 5 = .ok (.bipush 64, 2) := by decide +kernel
theorem dX9_isCell_7 : decode cX9_isCell 7 = .ok (.if_icmp .ge 7, 3) := by decide +kernel
theorem dX9_isCell_10 : decode cX9_isCell 10 = .ok (.iconst 1, 1) := by decide +kernel
theorem dX9_isCell_11 : decode cX9_isCell 11 = .ok (.goto 4, 3) := by decide +kernel
theorem dX9_isCell_14 : decode cX9_isCell 14 = .ok (.iconst 0, 1) := by decide +kernel
theorem dX9_isCell_15 : decode cX9_isCell 15 = .ok (.ireturn, 1) := by decide +kernel
theorem dX9_isNumber_0 : decode cX9_isNumber 0 = .ok (.iload_n 0, 1) := by decide +kernel
theorem dX9_isNumber_1 : decode cX9_isNumber 1 = .ok (.sipush (-9999), 3) := by decide +kernel
theorem dX9_isNumber_4 : decode cX9_isNumber 4 = .ok (.if_icmp .lt 14, 3) := by decide +kernel
theorem dX9_isNumber_7 : decode cX9_isNumber 7 = .ok (.iload_n 0, 1) := by decide +kernel
theorem dX9_isNumber_8 : decode cX9_isNumber 8 = .ok (.sipush 9999, 3) := by decide +kernel
theorem dX9_isNumber_11 : decode cX9_isNumber 11 = .ok (.if_icmp .gt 7, 3) := by decide +kernel
theorem dX9_isNumber_14 : decode cX9_isNumber 14 = .ok (.iconst 1, 1) := by decide +kernel
theorem dX9_isNumber_15 : decode cX9_isNumber 15 = .ok (.goto 4, 3) := by decide +kernel
theorem dX9_isNumber_18 : decode cX9_isNumber 18 = .ok (.iconst 0, 1) := by decide +kernel
theorem dX9_isNumber_19 : decode cX9_isNumber 19 = .ok (.ireturn, 1) := by decide +kernel
theorem dX9_isSign_0 : decode cX9_isSign 0 = .ok (.iload_n 0, 1) := by decide +kernel
theorem dX9_isSign_1 : decode cX9_isSign 1 = .ok (.bipush 43, 2) := by decide +kernel
theorem dX9_isSign_3 : decode cX9_isSign 3 = .ok (.if_icmp .eq 21, 3) := by decide +kernel
theorem dX9_isSign_6 : decode cX9_isSign 6 = .ok (.iload_n 0, 1) := by decide +kernel
theorem dX9_isSign_7 : decode cX9_isSign 7 = .ok (.bipush 45, 2) := by decide +kernel
theorem dX9_isSign_9 : decode cX9_isSign 9 = .ok (.if_icmp .eq 15, 3) := by decide +kernel
theorem dX9_isSign_12 : decode cX9_isSign 12 = .ok (.iload_n 0, 1) := by decide +kernel
theorem dX9_isSign_13 : decode cX9_isSign 13 = .ok (.bipush 42, 2) := by decide +kernel
theorem dX9_isSign_15 : decode cX9_isSign 15 = .ok (.if_icmp .eq 9, 3) := by decide +kernel
theorem dX9_isSign_18 : decode cX9_isSign 18 = .ok (.iload_n 0, 1) := by decide +kernel
theorem dX9_isSign_19 : decode cX9_isSign 19 = .ok (.bipush 47, 2) := by decide +kernel
theorem dX9_isSign_21 : decode cX9_isSign 21 = .ok (.if_icmp .ne 7, 3) := by decide +kernel
theorem dX9_isSign_24 : decode cX9_isSign 24 = .ok (.iconst 1, 1) := by decide +kernel
theorem dX9_isSign_25 : decode cX9_isSign 25 = .ok (.goto 4, 3) := by decide +kernel
theorem dX9_isSign_28 : decode cX9_isSign 28 = .ok (.iconst 0, 1) := by decide +kernel
theorem dX9_isSign_29 : decode cX9_isSign 29 = .ok (.ireturn, 1) := by decide +kernel
theorem dX9_bit_0 : decode cX9_bit 0 = .ok (.iload_n 0, 1) := by decide +kernel
theorem dX9_bit_1 : decode cX9_bit 1 = .ok (.ifCond .lt 15, 3) := by decide +kernel
theorem dX9_bit_4 : decode cX9_bit 4 = .ok (.iload_n 0, 1) := by decide +kernel
theorem dX9_bit_5 : decode cX9_bit 5 = .ok (.bipush 64, 2) := by decide +kernel
theorem dX9_bit_7 : decode cX9_bit 7 = .ok (.if_icmp .ge 9, 3) := by decide +kernel
theorem dX9_bit_10 : decode cX9_bit 10 = .ok (.lconst 1, 1) := by decide +kernel
theorem dX9_bit_11 : decode cX9_bit 11 = .ok (.iload_n 0, 1) := by decide +kernel
theorem dX9_bit_12 : decode cX9_bit 12 = .ok (.lshl, 1) := by decide +kernel
theorem dX9_bit_13 : decode cX9_bit 13 = .ok (.goto 4, 3) := by decide +kernel
theorem dX9_bit_16 : decode cX9_bit 16 = .ok (.lconst 0, 1) := by decide +kernel
theorem dX9_bit_17 : decode cX9_bit 17 = .ok (.lreturn, 1) := by decide +kernel
theorem dX9_rectangle_0 : decode cX9_rectangle 0 = .ok (.iload_n 0, 1) := by decide +kernel
theorem dX9_rectangle_1 : decode cX9_rectangle 1 = .ok (.bipush 8, 2) := by decide +kernel
theorem dX9_rectangle_3 : decode cX9_rectangle 3 = .ok (.irem, 1) := by decide +kernel
theorem dX9_rectangle_4 : decode cX9_rectangle 4 = .ok (.iload_n 1, 1) := by decide +kernel
theorem dX9_rectangle_5 : decode cX9_rectangle 5 = .ok (.bipush 8, 2) := by decide +kernel
theorem dX9_rectangle_7 : decode cX9_rectangle 7 = .ok (.irem, 1) := by decide +kernel
theorem dX9_rectangle_8 : decode cX9_rectangle 8 = .ok (.invokestatic 229, 3) := by decide +kernel
theorem dX9_rectangle_11 : decode cX9_rectangle 11 = .ok (.istore_n 2, 1) := by decide +kernel
theorem dX9_rectangle_12 : decode cX9_rectangle 12 = .ok (.iload_n 0, 1) := by decide +kernel
theorem dX9_rectangle_13 : decode cX9_rectangle 13 = .ok (.bipush 8, 2) := by decide +kernel
theorem dX9_rectangle_15 : decode cX9_rectangle 15 = .ok (.irem, 1) := by decide +kernel
theorem dX9_rectangle_16 : decode cX9_rectangle 16 = .ok (.iload_n 1, 1) := by decide +kernel
theorem dX9_rectangle_17 : decode cX9_rectangle 17 = .ok (.bipush 8, 2) := by decide +kernel
theorem dX9_rectangle_19 : decode cX9_rectangle 19 = .ok (.irem, 1) := by decide +kernel
theorem dX9_rectangle_20 : decode cX9_rectangle 20 = .ok (.invokestatic 234, 3) := by decide +kernel
theorem dX9_rectangle_23 : decode cX9_rectangle 23 = .ok (.istore_n 3, 1) := by decide +kernel
theorem dX9_rectangle_24 : decode cX9_rectangle 24 = .ok (.iload_n 0, 1) := by decide +kernel
theorem dX9_rectangle_25 : decode cX9_rectangle 25 = .ok (.bipush 8, 2) := by decide +kernel
theorem dX9_rectangle_27 : decode cX9_rectangle 27 = .ok (.idiv, 1) := by decide +kernel
theorem dX9_rectangle_28 : decode cX9_rectangle 28 = .ok (.iload_n 1, 1) := by decide +kernel
theorem dX9_rectangle_29 : decode cX9_rectangle 29 = .ok (.bipush 8, 2) := by decide +kernel
theorem dX9_rectangle_31 : decode cX9_rectangle 31 = .ok (.idiv, 1) := by decide +kernel
theorem dX9_rectangle_32 : decode cX9_rectangle 32 = .ok (.invokestatic 229, 3) := by decide +kernel
theorem dX9_rectangle_35 : decode cX9_rectangle 35 = .ok (.istore 4, 2) := by decide +kernel
theorem dX9_rectangle_37 : decode cX9_rectangle 37 = .ok (.iload_n 0, 1) := by decide +kernel
theorem dX9_rectangle_38 : decode cX9_rectangle 38 = .ok (.bipush 8, 2) := by decide +kernel
theorem dX9_rectangle_40 : decode cX9_rectangle 40 = .ok (.idiv, 1) := by decide +kernel
theorem dX9_rectangle_41 : decode cX9_rectangle 41 = .ok (.iload_n 1, 1) := by decide +kernel
theorem dX9_rectangle_42 : decode cX9_rectangle 42 = .ok (.bipush 8, 2) := by decide +kernel
theorem dX9_rectangle_44 : decode cX9_rectangle 44 = .ok (.idiv, 1) := by decide +kernel
theorem dX9_rectangle_45 : decode cX9_rectangle 45 = .ok (.invokestatic 234, 3) := by decide +kernel
theorem dX9_rectangle_48 : decode cX9_rectangle 48 = .ok (.istore 5, 2) := by decide +kernel
theorem dX9_rectangle_50 : decode cX9_rectangle 50 = .ok (.lconst 1, 1) := by decide +kernel
theorem dX9_rectangle_51 : decode cX9_rectangle 51 = .ok (.iload_n 3, 1) := by decide +kernel
theorem dX9_rectangle_52 : decode cX9_rectangle 52 = .ok (.iconst 1, 1) := by decide +kernel
theorem dX9_rectangle_53 : decode cX9_rectangle 53 = .ok (.iadd, 1) := by decide +kernel
theorem dX9_rectangle_54 : decode cX9_rectangle 54 = .ok (.lshl, 1) := by decide +kernel
theorem dX9_rectangle_55 : decode cX9_rectangle 55 = .ok (.lconst 1, 1) := by decide +kernel
theorem dX9_rectangle_56 : decode cX9_rectangle 56 = .ok (.iload_n 2, 1) := by decide +kernel
theorem dX9_rectangle_57 : decode cX9_rectangle 57 = .ok (.lshl, 1) := by decide +kernel
theorem dX9_rectangle_58 : decode cX9_rectangle 58 = .ok (.lsub, 1) := by decide +kernel
theorem dX9_rectangle_59 : decode cX9_rectangle 59 = .ok (.lstore 6, 2) := by decide +kernel
theorem dX9_rectangle_61 : decode cX9_rectangle 61 = .ok (.lconst 0, 1) := by decide +kernel
theorem dX9_rectangle_62 : decode cX9_rectangle 62 = .ok (.lstore 8, 2) := by decide +kernel
theorem dX9_rectangle_64 : decode cX9_rectangle 64 = .ok (.iload 4, 2) := by decide +kernel
theorem dX9_rectangle_66 : decode cX9_rectangle 66 = .ok (.istore 10, 2) := by decide +kernel
theorem dX9_rectangle_68 : decode cX9_rectangle 68 = .ok (.iload 10, 2) := by decide +kernel
theorem dX9_rectangle_70 : decode cX9_rectangle 70 = .ok (.iload 5, 2) := by decide +kernel
theorem dX9_rectangle_72 : decode cX9_rectangle 72 = .ok (.if_icmp .gt 22, 3) := by decide +kernel
theorem dX9_rectangle_75 : decode cX9_rectangle 75 = .ok (.lload 8, 2) := by decide +kernel
theorem dX9_rectangle_77 : decode cX9_rectangle 77 = .ok (.lload 6, 2) := by decide +kernel
theorem dX9_rectangle_79 : decode cX9_rectangle 79 = .ok (.bipush 8, 2) := by decide +kernel
theorem dX9_rectangle_81 : decode cX9_rectangle 81 = .ok (.iload 10, 2) := by decide +kernel
theorem dX9_rectangle_83 : decode cX9_rectangle 83 = .ok (.imul, 1) := by decide +kernel
theorem dX9_rectangle_84 : decode cX9_rectangle 84 = .ok (.lshl, 1) := by decide +kernel
theorem dX9_rectangle_85 : decode cX9_rectangle 85 = .ok (.lor, 1) := by decide +kernel
theorem dX9_rectangle_86 : decode cX9_rectangle 86 = .ok (.lstore 8, 2) := by decide +kernel
theorem dX9_rectangle_88 : decode cX9_rectangle 88 = .ok (.iinc 10 1, 3) := by decide +kernel
theorem dX9_rectangle_91 : decode cX9_rectangle 91 = .ok (.goto (-23), 3) := by decide +kernel
theorem dX9_rectangle_94 : decode cX9_rectangle 94 = .ok (.lload 8, 2) := by decide +kernel
theorem dX9_rectangle_96 : decode cX9_rectangle 96 = .ok (.lreturn, 1) := by decide +kernel
theorem dX10_init_0 : decode cX10_init 0 = .ok (.aload_n 0, 1) := by decide +kernel
theorem dX10_init_1 : decode cX10_init 1 = .ok (.invokespecial 1, 3) := by decide +kernel
theorem dX10_init_4 : decode cX10_init 4 = .ok (.aload_n 0, 1) := by decide +kernel
theorem dX10_init_5 : decode cX10_init 5 = .ok (.bipush 60, 2) := by decide +kernel
theorem dX10_init_7 : decode cX10_init 7 = .ok (.newarray .byte, 2) := by decide +kernel
theorem dX10_init_9 : decode cX10_init 9 = .ok (.putfield 7, 3) := by decide +kernel
theorem dX10_init_12 : decode cX10_init 12 = .ok (.aload_n 0, 1) := by decide +kernel
theorem dX10_init_13 : decode cX10_init 13 = .ok (.sipush 384, 3) := by decide +kernel
theorem dX10_init_16 : decode cX10_init 16 = .ok (.newarray .int, 2) := by decide +kernel
theorem dX10_init_18 : decode cX10_init 18 = .ok (.putfield 13, 3) := by decide +kernel
theorem dX10_init_21 : decode cX10_init 21 = .ok (.aload_n 0, 1) := by decide +kernel
theorem dX10_init_22 : decode cX10_init 22 = .ok (.sipush 384, 3) := by decide +kernel
theorem dX10_init_25 : decode cX10_init 25 = .ok (.newarray .int, 2) := by decide +kernel
theorem dX10_init_27 : decode cX10_init 27 = .ok (.putfield 17, 3) := by decide +kernel
theorem dX10_init_30 : decode cX10_init 30 = .ok (.aload_n 0, 1) := by decide +kernel
theorem dX10_init_31 : decode cX10_init 31 = .ok (.sipush 384, 3) := by decide +kernel
theorem dX10_init_34 : decode cX10_init 34 = .ok (.newarray .int, 2) := by decide +kernel
theorem dX10_init_36 : decode cX10_init 36 = .ok (.putfield 20, 3) := by decide +kernel
theorem dX10_init_39 : decode cX10_init 39 = .ok (.aload_n 0, 1) := by decide +kernel
theorem dX10_init_40 : decode cX10_init 40 = .ok (.sipush 15360, 3) := by decide +kernel
theorem dX10_init_43 : decode cX10_init 43 = .ok (.newarray .byte, 2) := by decide +kernel
theorem dX10_init_45 : decode cX10_init 45 = .ok (.putfield 23, 3) := by decide +kernel
theorem dX10_init_48 : decode cX10_init 48 = .ok (.aload_n 0, 1) := by decide +kernel
theorem dX10_init_49 : decode cX10_init 49 = .ok (.sipush 384, 3) := by decide +kernel
theorem dX10_init_52 : decode cX10_init 52 = .ok (.newarray .int, 2) := by decide +kernel
theorem dX10_init_54 : decode cX10_init 54 = .ok (.putfield 26, 3) := by decide +kernel
theorem dX10_init_57 : decode cX10_init 57 = .ok (.aload_n 0, 1) := by decide +kernel
theorem dX10_init_58 : decode cX10_init 58 = .ok (.sipush 15360, 3) := by decide +kernel
theorem dX10_init_61 : decode cX10_init 61 = .ok (.newarray .int, 2) := by decide +kernel
theorem dX10_init_63 : decode cX10_init 63 = .ok (.putfield 29, 3) := by decide +kernel
theorem dX10_init_66 : decode cX10_init 66 = .ok (.aload_n 0, 1) := by decide +kernel
theorem dX10_init_67 : decode cX10_init 67 = .ok (.sipush 15360, 3) := by decide +kernel
theorem dX10_init_70 : decode cX10_init 70 = .ok (.newarray .int, 2) := by decide +kernel
theorem dX10_init_72 : decode cX10_init 72 = .ok (.putfield 32, 3) := by decide +kernel
theorem dX10_init_75 : decode cX10_init 75 = .ok (.aload_n 0, 1) := by decide +kernel
theorem dX10_init_76 : decode cX10_init 76 = .ok (.sipush 15360, 3) := by decide +kernel
theorem dX10_init_79 : decode cX10_init 79 = .ok (.newarray .int, 2) := by decide +kernel
theorem dX10_init_81 : decode cX10_init 81 = .ok (.putfield 35, 3) := by decide +kernel
theorem dX10_init_84 : decode cX10_init 84 = .ok (.aload_n 0, 1) := by decide +kernel
theorem dX10_init_85 : decode cX10_init 85 = .ok (.sipush 15360, 3) := by decide +kernel
theorem dX10_init_88 : decode cX10_init 88 = .ok (.newarray .int, 2) := by decide +kernel
theorem dX10_init_90 : decode cX10_init 90 = .ok (.putfield 38, 3) := by decide +kernel
theorem dX10_init_93 : decode cX10_init 93 = .ok (.aload_n 0, 1) := by decide +kernel
theorem dX10_init_94 : decode cX10_init 94 = .ok (.sipush 15360, 3) := by decide +kernel
theorem dX10_init_97 : decode cX10_init 97 = .ok (.newarray .int, 2) := by decide +kernel
theorem dX10_init_99 : decode cX10_init 99 = .ok (.putfield 41, 3) := by decide +kernel
theorem dX10_init_102 : decode cX10_init 102 = .ok (.aload_n 0, 1) := by decide +kernel
theorem dX10_init_103 : decode cX10_init 103 = .ok (.sipush 384, 3) := by decide +kernel
theorem dX10_init_106 : decode cX10_init 106 = .ok (.newarray .long, 2) := by decide +kernel
theorem dX10_init_108 : decode cX10_init 108 = .ok (.putfield 44, 3) := by decide +kernel
theorem dX10_init_111 : decode cX10_init 111 = .ok (.aload_n 0, 1) := by decide +kernel
theorem dX10_init_112 : decode cX10_init 112 = .ok (.bipush 64, 2) := by decide +kernel
theorem dX10_init_114 : decode cX10_init 114 = .ok (.newarray .boolean, 2) := by decide +kernel
theorem dX10_init_116 : decode cX10_init 116 = .ok (.putfield 48, 3) := by decide +kernel
theorem dX10_init_119 : decode cX10_init 119 = .ok (.aload_n 0, 1) := by decide +kernel
theorem dX10_init_120 : decode cX10_init 120 = .ok (.bipush 64, 2) := by decide +kernel
theorem dX10_init_122 : decode cX10_init 122 = .ok (.newarray .int, 2) := by decide +kernel
theorem dX10_init_124 : decode cX10_init 124 = .ok (.putfield 52, 3) := by decide +kernel
theorem dX10_init_127 : decode cX10_init 127 = .ok (.aload_n 0, 1) := by decide +kernel
theorem dX10_init_128 : decode cX10_init 128 = .ok (.sipush 384, 3) := by decide +kernel
theorem dX10_init_131 : decode cX10_init 131 = .ok (.newarray .int, 2) := by decide +kernel
theorem dX10_init_133 : decode cX10_init 133 = .ok (.putfield 55, 3) := by decide +kernel
theorem dX10_init_136 : decode cX10_init 136 = .ok (.aload_n 0, 1) := by decide +kernel
theorem dX10_init_137 : decode cX10_init 137 = .ok (.sipush 384, 3) := by decide +kernel
theorem dX10_init_140 : decode cX10_init 140 = .ok (.newarray .long, 2) := by decide +kernel
theorem dX10_init_142 : decode cX10_init 142 = .ok (.putfield 58, 3) := by decide +kernel
theorem dX10_init_145 : decode cX10_init 145 = .ok (.aload_n 0, 1) := by decide +kernel
theorem dX10_init_146 : decode cX10_init 146 = .ok (.sipush 384, 3) := by decide +kernel
theorem dX10_init_149 : decode cX10_init 149 = .ok (.newarray .int, 2) := by decide +kernel
theorem dX10_init_151 : decode cX10_init 151 = .ok (.putfield 61, 3) := by decide +kernel
theorem dX10_init_154 : decode cX10_init 154 = .ok (.aload_n 0, 1) := by decide +kernel
theorem dX10_init_155 : decode cX10_init 155 = .ok (.bipush 40, 2) := by decide +kernel
theorem dX10_init_157 : decode cX10_init 157 = .ok (.newarray .int, 2) := by decide +kernel
theorem dX10_init_159 : decode cX10_init 159 = .ok (.putfield 64, 3) := by decide +kernel
theorem dX10_init_162 : decode cX10_init 162 = .ok (.aload_n 0, 1) := by decide +kernel
theorem dX10_init_163 : decode cX10_init 163 = .ok (.bipush 40, 2) := by decide +kernel
theorem dX10_init_165 : decode cX10_init 165 = .ok (.newarray .int, 2) := by decide +kernel
theorem dX10_init_167 : decode cX10_init 167 = .ok (.putfield 67, 3) := by decide +kernel
theorem dX10_init_170 : decode cX10_init 170 = .ok (.aload_n 0, 1) := by decide +kernel
theorem dX10_init_171 : decode cX10_init 171 = .ok (.bipush 40, 2) := by decide +kernel
theorem dX10_init_173 : decode cX10_init 173 = .ok (.newarray .int, 2) := by decide +kernel
theorem dX10_init_175 : decode cX10_init 175 = .ok (.putfield 70, 3) := by decide +kernel
theorem dX10_init_178 : decode cX10_init 178 = .ok (.aload_n 0, 1) := by decide +kernel
theorem dX10_init_179 : decode cX10_init 179 = .ok (.bipush 40, 2) := by decide +kernel
theorem dX10_init_181 : decode cX10_init 181 = .ok (.newarray .int, 2) := by decide +kernel
theorem dX10_init_183 : decode cX10_init 183 = .ok (.putfield 73, 3) := by decide +kernel
theorem dX10_init_186 : decode cX10_init 186 = .ok (.aload_n 0, 1) := by decide +kernel
theorem dX10_init_187 : decode cX10_init 187 = .ok (.bipush 40, 2) := by decide +kernel
theorem dX10_init_189 : decode cX10_init 189 = .ok (.newarray .int, 2) := by decide +kernel
theorem dX10_init_191 : decode cX10_init 191 = .ok (.putfield 76, 3) := by decide +kernel
theorem dX10_init_194 : decode cX10_init 194 = .ok (.aload_n 0, 1) := by decide +kernel
theorem dX10_init_195 : decode cX10_init 195 = .ok (.bipush 40, 2) := by decide +kernel
theorem dX10_init_197 : decode cX10_init 197 = .ok (.newarray .int, 2) := by decide +kernel
theorem dX10_init_199 : decode cX10_init 199 = .ok (.putfield 79, 3) := by decide +kernel
theorem dX10_init_202 : decode cX10_init 202 = .ok (.aload_n 0, 1) := by decide +kernel
theorem dX10_init_203 : decode cX10_init 203 = .ok (.bipush 40, 2) := by decide +kernel
theorem dX10_init_205 : decode cX10_init 205 = .ok (.newarray .int, 2) := by decide +kernel
theorem dX10_init_207 : decode cX10_init 207 = .ok (.putfield 82, 3) := by decide +kernel
theorem dX10_init_210 : decode cX10_init 210 = .ok (.aload_n 0, 1) := by decide +kernel
theorem dX10_init_211 : decode cX10_init 211 = .ok (.iconst (-1), 1) := by decide +kernel
theorem dX10_init_212 : decode cX10_init 212 = .ok (.putfield 85, 3) := by decide +kernel
theorem dX10_init_215 : decode cX10_init 215 = .ok (.aload_n 0, 1) := by decide +kernel
theorem dX10_init_216 : decode cX10_init 216 = .ok (.bipush 64, 2) := by decide +kernel
theorem dX10_init_218 : decode cX10_init 218 = .ok (.newarray .int, 2) := by decide +kernel
theorem dX10_init_220 : decode cX10_init 220 = .ok (.putfield 89, 3) := by decide +kernel
theorem dX10_init_223 : decode cX10_init 223 = .ok (.aload_n 0, 1) := by decide +kernel
theorem dX10_init_224 : decode cX10_init 224 = .ok (.bipush 64, 2) := by decide +kernel
theorem dX10_init_226 : decode cX10_init 226 = .ok (.newarray .long, 2) := by decide +kernel
theorem dX10_init_228 : decode cX10_init 228 = .ok (.putfield 92, 3) := by decide +kernel
theorem dX10_init_231 : decode cX10_init 231 = .ok (.aload_n 0, 1) := by decide +kernel
theorem dX10_init_232 : decode cX10_init 232 = .ok (.bipush 64, 2) := by decide +kernel
theorem dX10_init_234 : decode cX10_init 234 = .ok (.newarray .long, 2) := by decide +kernel
theorem dX10_init_236 : decode cX10_init 236 = .ok (.putfield 95, 3) := by decide +kernel
theorem dX10_init_239 : decode cX10_init 239 = .ok (.aload_n 0, 1) := by decide +kernel
theorem dX10_init_240 : decode cX10_init 240 = .ok (.bipush 64, 2) := by decide +kernel
theorem dX10_init_242 : decode cX10_init 242 = .ok (.newarray .int, 2) := by decide +kernel
theorem dX10_init_244 : decode cX10_init 244 = .ok (.putfield 98, 3) := by decide +kernel
theorem dX10_init_247 : decode cX10_init 247 = .ok (.aload_n 0, 1) := by decide +kernel
theorem dX10_init_248 : decode cX10_init 248 = .ok (.bipush 40, 2) := by decide +kernel
theorem dX10_init_250 : decode cX10_init 250 = .ok (.newarray .long, 2) := by decide +kernel
theorem dX10_init_252 : decode cX10_init 252 = .ok (.putfield 101, 3) := by decide +kernel
theorem dX10_init_255 : decode cX10_init 255 = .ok (.return_, 1) := by decide +kernel
theorem dX10_lies_0 : decode cX10_lies 0 = .ok (.iload_n 0, 1) := by decide +kernel
theorem dX10_lies_1 : decode cX10_lies 1 = .ok (.iload_n 1, 1) := by decide +kernel
theorem dX10_lies_2 : decode cX10_lies 2 = .ok (.if_icmp .lt 12, 3) := by decide +kernel
theorem dX10_lies_5 : decode cX10_lies 5 = .ok (.iload_n 0, 1) := by decide +kernel
theorem dX10_lies_6 : decode cX10_lies 6 = .ok (.iload_n 2, 1) := by decide +kernel
theorem dX10_lies_7 : decode cX10_lies 7 = .ok (.if_icmp .gt 7, 3) := by decide +kernel
theorem dX10_lies_10 : decode cX10_lies 10 = .ok (.iconst 1, 1) := by decide +kernel
theorem dX10_lies_11 : decode cX10_lies 11 = .ok (.goto 4, 3) := by decide +kernel
theorem dX10_lies_14 : decode cX10_lies 14 = .ok (.iconst 0, 1) := by decide +kernel
theorem dX10_lies_15 : decode cX10_lies 15 = .ok (.ireturn, 1) := by decide +kernel
theorem dX10_isCell_0 : decode cX10_isCell 0 = .ok (.iload_n 0, 1) := by decide +kernel
theorem dX10_isCell_1 : decode cX10_isCell 1 = .ok (.iconst 0, 1) := by decide +kernel
theorem dX10_isCell_2 : decode cX10_isCell 2 = .ok (.bipush 63, 2) := by decide +kernel
theorem dX10_isCell_4 : decode cX10_isCell 4 = .ok (.invokestatic 104, 3) := by decide +kernel
theorem dX10_isCell_7 : decode cX10_isCell 7 = .ok (.ireturn, 1) := by decide +kernel
theorem dX10_isSheet_0 : decode cX10_isSheet 0 = .ok (.iload_n 0, 1) := by decide +kernel
theorem dX10_isSheet_1 : decode cX10_isSheet 1 = .ok (.iconst 0, 1) := by decide +kernel
theorem dX10_isSheet_2 : decode cX10_isSheet 2 = .ok (.iconst 5, 1) := by decide +kernel
theorem dX10_isSheet_3 : decode cX10_isSheet 3 = .ok (.invokestatic 104, 3) := by decide +kernel
theorem dX10_isSheet_6 : decode cX10_isSheet 6 = .ok (.ireturn, 1) := by decide +kernel
theorem dX10_isWanted_0 : decode cX10_isWanted 0 = .ok (.aload_n 0, 1) := by decide +kernel
theorem dX10_isWanted_1 : decode cX10_isWanted 1 = .ok (.getfield 52, 3) := by decide +kernel
theorem dX10_isWanted_4 : decode cX10_isWanted 4 = .ok (.iload_n 1, 1) := by decide +kernel
theorem dX10_isWanted_5 : decode cX10_isWanted 5 = .ok (.iaload, 1) := by decide +kernel
theorem dX10_isWanted_6 : decode cX10_isWanted 6 = .ok (.ifCond .le 7, 3) := by decide +kernel
theorem dX10_isWanted_9 : decode cX10_isWanted 9 = .ok (.iconst 1, 1) := by decide +kernel
theorem dX10_isWanted_10 : decode cX10_isWanted 10 = .ok (.goto 4, 3) := by decide +kernel
theorem dX10_isWanted_13 : decode cX10_isWanted 13 = .ok (.iconst 0, 1) := by decide +kernel
theorem dX10_isWanted_14 : decode cX10_isWanted 14 = .ok (.ireturn, 1) := by decide +kernel
theorem dX10_push_0 : decode cX10_push 0 = .ok (.bipush 24, 2) := by decide +kernel
theorem dX10_push_2 : decode cX10_push 2 = .ok (.istore_n 2, 1) := by decide +kernel
theorem dX10_push_3 : decode cX10_push 3 = .ok (.iload_n 2, 1) := by decide +kernel
theorem dX10_push_4 : decode cX10_push 4 = .ok (.ifCond .lt 32, 3) := by decide +kernel
theorem dX10_push_7 : decode cX10_push 7 = .ok (.aload_n 0, 1) := by decide +kernel
theorem dX10_push_8 : decode cX10_push 8 = .ok (.getfield 7, 3) := by decide +kernel
theorem dX10_push_11 : decode cX10_push 11 = .ok (.aload_n 0, 1) := by decide +kernel
theorem dX10_push_12 : decode cX10_push 12 = .ok (.getfield 108, 3) := by decide +kernel
theorem dX10_push_15 : decode cX10_push 15 = .ok (.iload_n 1, 1) := by decide +kernel
theorem dX10_push_16 : decode cX10_push 16 = .ok (.iload_n 2, 1) := by decide +kernel
theorem dX10_push_17 : decode cX10_push 17 = .ok (.ishr, 1) := by decide +kernel
theorem dX10_push_18 : decode cX10_push 18 = .ok (.i2b, 1) := by decide +kernel
theorem dX10_push_19 : decode cX10_push 19 = .ok (.bastore, 1) := by decide +kernel
theorem dX10_push_20 : decode cX10_push 20 = .ok (.aload_n 0, 1) := by decide +kernel
theorem dX10_push_21 : decode cX10_push 21 = .ok (.dup, 1) := by decide +kernel
theorem dX10_push_22 : decode cX10_push 22 = .ok (.getfield 108, 3) := by decide +kernel
theorem dX10_push_25 : decode cX10_push 25 = .ok (.iconst 1, 1) := by decide +kernel
theorem dX10_push_26 : decode cX10_push 26 = .ok (.iadd, 1) := by decide +kernel
theorem dX10_push_27 : decode cX10_push 27 = .ok (.putfield 108, 3) := by decide +kernel
theorem dX10_push_30 : decode cX10_push 30 = .ok (.iinc 2 (-8), 3) := by decide +kernel
theorem dX10_push_33 : decode cX10_push 33 = .ok (.goto (-30), 3) := by decide +kernel
theorem dX10_push_36 : decode cX10_push 36 = .ok (.return_, 1) := by decide +kernel
theorem dX10_feed_0 : decode cX10_feed 0 = .ok (.aload_n 0, 1) := by decide +kernel
theorem dX10_feed_1 : decode cX10_feed 1 = .ok (.getfield 108, 3) := by decide +kernel
theorem dX10_feed_4 : decode cX10_feed 4 = .ok (.bipush 20, 2) := by decide +kernel
theorem dX10_feed_6 : decode cX10_feed 6 = .ok (.iadd, 1) := by decide +kernel
theorem dX10_feed_7 : decode cX10_feed 7 = .ok (.bipush 60, 2) := by decide +kernel
theorem dX10_feed_9 : decode cX10_feed 9 = .ok (.if_icmp .le 5, 3) := by decide +kernel
theorem dX10_feed_12 : decode cX10_feed 12 = .ok (.iconst (-1), 1) := by decide +kernel
theorem dX10_feed_13 : decode cX10_feed 13 = .ok (.ireturn, 1) := by decide +kernel
theorem dX10_feed_14 : decode cX10_feed 14 = .ok (.aload_n 0, 1) := by decide +kernel
theorem dX10_feed_15 : decode cX10_feed 15 = .ok (.iload_n 1, 1) := by decide +kernel
theorem dX10_feed_16 : decode cX10_feed 16 = .ok (.invokevirtual 111, 3) := by decide +kernel
theorem dX10_feed_19 : decode cX10_feed 19 = .ok (.aload_n 0, 1) := by decide +kernel
theorem dX10_feed_20 : decode cX10_feed 20 = .ok (.iload_n 2, 1) := by decide +kernel
theorem dX10_feed_21 : decode cX10_feed 21 = .ok (.invokevirtual 111, 3) := by decide +kernel
theorem dX10_feed_24 : decode cX10_feed 24 = .ok (.aload_n 0, 1) := by decide +kernel
theorem dX10_feed_25 : decode cX10_feed 25 = .ok (.iload_n 3, 1) := by decide +kernel
theorem dX10_feed_26 : decode cX10_feed 26 = .ok (.invokevirtual 111, 3) := by decide +kernel
theorem dX10_feed_29 : decode cX10_feed 29 = .ok (.aload_n 0, 1) := by decide +kernel
theorem dX10_feed_30 : decode cX10_feed 30 = .ok (.iload 4, 2) := by decide +kernel
theorem dX10_feed_32 : decode cX10_feed 32 = .ok (.invokevirtual 111, 3) := by decide +kernel
theorem dX10_feed_35 : decode cX10_feed 35 = .ok (.aload_n 0, 1) := by decide +kernel
theorem dX10_feed_36 : decode cX10_feed 36 = .ok (.iload 5, 2) := by decide +kernel
theorem dX10_feed_38 : decode cX10_feed 38 = .ok (.invokevirtual 111, 3) := by decide +kernel
theorem dX10_feed_41 : decode cX10_feed 41 = .ok (.aload_n 0, 1) := by decide +kernel
theorem dX10_feed_42 : decode cX10_feed 42 = .ok (.getfield 108, 3) := by decide +kernel
theorem dX10_feed_45 : decode cX10_feed 45 = .ok (.ireturn, 1) := by decide +kernel
theorem dX10_number_0 : decode cX10_number 0 = .ok (.iload_n 1, 1) := by decide +kernel
theorem dX10_number_1 : decode cX10_number 1 = .ok (.invokestatic 115, 3) := by decide +kernel
theorem dX10_number_4 : decode cX10_number 4 = .ok (.ifCond .eq 23, 3) := by decide +kernel
theorem dX10_number_7 : decode cX10_number 7 = .ok (.iload_n 2, 1) := by decide +kernel
theorem dX10_number_8 : decode cX10_number 8 = .ok (.invokestatic 119, 3) := by decide +kernel
theorem dX10_number_11 : decode cX10_number 11 = .ok (.ifCond .eq 16, 3) := by decide +kernel
theorem dX10_number_14 : decode cX10_number 14 = .ok (.iload_n 3, 1) := by decide +kernel
theorem dX10_number_15 : decode cX10_number 15 = .ok (.sipush (-9999), 3) := by decide +kernel
theorem dX10_number_18 : decode cX10_number 18 = .ok (.sipush 9999, 3) := by decide +kernel
theorem dX10_number_21 : decode cX10_number 21 = .ok (.invokestatic 104, 3) := by decide +kernel
theorem dX10_number_24 : decode cX10_number 24 = .ok (.ifCond .ne 5, 3) := by decide +kernel
theorem dX10_number_27 : decode cX10_number 27 = .ok (.iconst 0, 1) := by decide +kernel
theorem dX10_number_28 : decode cX10_number 28 = .ok (.ireturn, 1) := by decide +kernel
theorem dX10_number_29 : decode cX10_number 29 = .ok (.aload_n 0, 1) := by decide +kernel
theorem dX10_number_30 : decode cX10_number 30 = .ok (.getfield 13, 3) := by decide +kernel
theorem dX10_number_33 : decode cX10_number 33 = .ok (.bipush 64, 2) := by decide +kernel
theorem dX10_number_35 : decode cX10_number 35 = .ok (.iload_n 1, 1) := by decide +kernel
theorem dX10_number_36 : decode cX10_number 36 = .ok (.imul, 1) := by decide +kernel
theorem dX10_number_37 : decode cX10_number 37 = .ok (.iload_n 2, 1) := by decide +kernel
theorem dX10_number_38 : decode cX10_number 38 = .ok (.iadd, 1) := by decide +kernel
theorem dX10_number_39 : decode cX10_number 39 = .ok (.iconst 1, 1) := by decide +kernel
theorem dX10_number_40 : decode cX10_number 40 = .ok (.iastore, 1) := by decide +kernel
theorem dX10_number_41 : decode cX10_number 41 = .ok (.aload_n 0, 1) := by decide +kernel
theorem dX10_number_42 : decode cX10_number 42 = .ok (.getfield 17, 3) := by decide +kernel
theorem dX10_number_45 : decode cX10_number 45 = .ok (.bipush 64, 2) := by decide +kernel
theorem dX10_number_47 : decode cX10_number 47 = .ok (.iload_n 1, 1) := by decide +kernel
theorem dX10_number_48 : decode cX10_number 48 = .ok (.imul, 1) := by decide +kernel
theorem dX10_number_49 : decode cX10_number 49 = .ok (.iload_n 2, 1) := by decide +kernel
theorem dX10_number_50 : decode cX10_number 50 = .ok (.iadd, 1) := by decide +kernel
theorem dX10_number_51 : decode cX10_number 51 = .ok (.iload_n 3, 1) := by decide +kernel
theorem dX10_number_52 : decode cX10_number 52 = .ok (.iastore, 1) := by decide +kernel
theorem dX10_number_53 : decode cX10_number 53 = .ok (.aload_n 0, 1) := by decide +kernel
theorem dX10_number_54 : decode cX10_number 54 = .ok (.iconst 0, 1) := by decide +kernel
theorem dX10_number_55 : decode cX10_number 55 = .ok (.putfield 122, 3) := by decide +kernel
theorem dX10_number_58 : decode cX10_number 58 = .ok (.iconst 1, 1) := by decide +kernel
theorem dX10_number_59 : decode cX10_number 59 = .ok (.ireturn, 1) := by decide +kernel
theorem dX10_clear_0 : decode cX10_clear 0 = .ok (.iload_n 1, 1) := by decide +kernel
theorem dX10_clear_1 : decode cX10_clear 1 = .ok (.invokestatic 115, 3) := by decide +kernel
theorem dX10_clear_4 : decode cX10_clear 4 = .ok (.ifCond .eq 24, 3) := by decide +kernel
theorem dX10_clear_7 : decode cX10_clear 7 = .ok (.iload_n 2, 1) := by decide +kernel
theorem dX10_clear_8 : decode cX10_clear 8 = .ok (.invokestatic 119, 3) := by decide +kernel
theorem dX10_clear_11 : decode cX10_clear 11 = .ok (.ifCond .eq 17, 3) := by decide +kernel
theorem dX10_clear_14 : decode cX10_clear 14 = .ok (.aload_n 0, 1) := by decide +kernel
theorem dX10_clear_15 : decode cX10_clear 15 = .ok (.getfield 13, 3) := by decide +kernel
theorem dX10_clear_18 : decode cX10_clear 18 = .ok (.bipush 64, 2) := by decide +kernel
theorem dX10_clear_20 : decode cX10_clear 20 = .ok (.iload_n 1, 1) := by decide +kernel
theorem dX10_clear_21 : decode cX10_clear 21 = .ok (.imul, 1) := by decide +kernel
theorem dX10_clear_22 : decode cX10_clear 22 = .ok (.iload_n 2, 1) := by decide +kernel
theorem dX10_clear_23 : decode cX10_clear 23 = .ok (.iadd, 1) := by decide +kernel
theorem dX10_clear_24 : decode cX10_clear 24 = .ok (.iaload, 1) := by decide +kernel
theorem dX10_clear_25 : decode cX10_clear 25 = .ok (.ifCond .ne 5, 3) := by decide +kernel
theorem dX10_clear_28 : decode cX10_clear 28 = .ok (.iconst 0, 1) := by decide +kernel
theorem dX10_clear_29 : decode cX10_clear 29 = .ok (.ireturn, 1) := by decide +kernel
theorem dX10_clear_30 : decode cX10_clear 30 = .ok (.aload_n 0, 1) := by decide +kernel
theorem dX10_clear_31 : decode cX10_clear 31 = .ok (.getfield 13, 3) := by decide +kernel
theorem dX10_clear_34 : decode cX10_clear 34 = .ok (.bipush 64, 2) := by decide +kernel
theorem dX10_clear_36 : decode cX10_clear 36 = .ok (.iload_n 1, 1) := by decide +kernel
theorem dX10_clear_37 : decode cX10_clear 37 = .ok (.imul, 1) := by decide +kernel
theorem dX10_clear_38 : decode cX10_clear 38 = .ok (.iload_n 2, 1) := by decide +kernel
theorem dX10_clear_39 : decode cX10_clear 39 = .ok (.iadd, 1) := by decide +kernel
theorem dX10_clear_40 : decode cX10_clear 40 = .ok (.iconst 0, 1) := by decide +kernel
theorem dX10_clear_41 : decode cX10_clear 41 = .ok (.iastore, 1) := by decide +kernel
theorem dX10_clear_42 : decode cX10_clear 42 = .ok (.aload_n 0, 1) := by decide +kernel
theorem dX10_clear_43 : decode cX10_clear 43 = .ok (.iconst 0, 1) := by decide +kernel
theorem dX10_clear_44 : decode cX10_clear 44 = .ok (.putfield 122, 3) := by decide +kernel
theorem dX10_clear_47 : decode cX10_clear 47 = .ok (.iconst 1, 1) := by decide +kernel
theorem dX10_clear_48 : decode cX10_clear 48 = .ok (.ireturn, 1) := by decide +kernel
theorem dX10_here_0 : decode cX10_here 0 = .ok (.aload_n 0, 1) := by decide +kernel
theorem dX10_here_1 : decode cX10_here 1 = .ok (.getfield 126, 3) := by decide +kernel
theorem dX10_here_4 : decode cX10_here 4 = .ok (.aload_n 0, 1) := by decide +kernel
theorem dX10_here_5 : decode cX10_here 5 = .ok (.getfield 129, 3) := by decide +kernel
theorem dX10_here_8 : decode cX10_here 8 = .ok (.if_icmp .ge 19, 3) := by decide +kernel
theorem dX10_here_11 : decode cX10_here 11 = .ok (.aload_n 0, 1) := by decide +kernel
theorem dX10_here_12 : decode cX10_here 12 = .ok (.getfield 7, 3) := by decide +kernel
theorem dX10_here_15 : decode cX10_here 15 = .ok (.aload_n 0, 1) := by decide +kernel
theorem dX10_here_16 : decode cX10_here 16 = .ok (.getfield 126, 3) := by decide +kernel
theorem dX10_here_19 : decode cX10_here 19 = .ok (.baload, 1) := by decide +kernel
theorem dX10_here_20 : decode cX10_here 20 = .ok (.sipush 255, 3) := by decide +kernel
theorem dX10_here_23 : decode cX10_here 23 = .ok (.iand, 1) := by decide +kernel
theorem dX10_here_24 : decode cX10_here 24 = .ok (.goto 4, 3) := by decide +kernel
theorem dX10_here_27 : decode cX10_here 27 = .ok (.iconst 0, 1) := by decide +kernel
theorem dX10_here_28 : decode cX10_here 28 = .ok (.ireturn, 1) := by decide +kernel
theorem dX10_fails_0 : decode cX10_fails 0 = .ok (.aload_n 0, 1) := by decide +kernel
theorem dX10_fails_1 : decode cX10_fails 1 = .ok (.getfield 132, 3) := by decide +kernel
theorem dX10_fails_4 : decode cX10_fails 4 = .ok (.ifCond .le 4, 3) := by decide +kernel
theorem dX10_fails_7 : decode cX10_fails 7 = .ok (.return_, 1) := by decide +kernel
theorem dX10_fails_8 : decode cX10_fails 8 = .ok (.aload_n 0, 1) := by decide +kernel
theorem dX10_fails_9 : decode cX10_fails 9 = .ok (.iload_n 1, 1) := by decide +kernel
theorem dX10_fails_10 : decode cX10_fails 10 = .ok (.putfield 132, 3) := by decide +kernel
theorem dX10_fails_13 : decode cX10_fails 13 = .ok (.aload_n 0, 1) := by decide +kernel
theorem dX10_fails_14 : decode cX10_fails 14 = .ok (.iload_n 2, 1) := by decide +kernel
theorem dX10_fails_15 : decode cX10_fails 15 = .ok (.putfield 135, 3) := by decide +kernel
theorem dX10_fails_18 : decode cX10_fails 18 = .ok (.return_, 1) := by decide +kernel
theorem dX10_puts_0 : decode cX10_puts 0 = .ok (.aload_n 0, 1) := by decide +kernel
theorem dX10_puts_1 : decode cX10_puts 1 = .ok (.getfield 64, 3) := by decide +kernel
theorem dX10_puts_4 : decode cX10_puts 4 = .ok (.aload_n 0, 1) := by decide +kernel
theorem dX10_puts_5 : decode cX10_puts 5 = .ok (.getfield 138, 3) := by decide +kernel
theorem dX10_puts_8 : decode cX10_puts 8 = .ok (.iload_n 1, 1) := by decide +kernel
theorem dX10_puts_9 : decode cX10_puts 9 = .ok (.iastore, 1) := by decide +kernel
theorem dX10_puts_10 : decode cX10_puts 10 = .ok (.aload_n 0, 1) := by decide +kernel
theorem dX10_puts_11 : decode cX10_puts 11 = .ok (.getfield 67, 3) := by decide +kernel
theorem dX10_puts_14 : decode cX10_puts 14 = .ok (.aload_n 0, 1) := by decide +kernel
theorem dX10_puts_15 : decode cX10_puts 15 = .ok (.getfield 138, 3) := by decide +kernel
theorem dX10_puts_18 : decode cX10_puts 18 = .ok (.iload_n 2, 1) := by decide +kernel
theorem dX10_puts_19 : decode cX10_puts 19 = .ok (.iastore, 1) := by decide +kernel
theorem dX10_puts_20 : decode cX10_puts 20 = .ok (.aload_n 0, 1) := by decide +kernel
theorem dX10_puts_21 : decode cX10_puts 21 = .ok (.getfield 70, 3) := by decide +kernel
theorem dX10_puts_24 : decode cX10_puts 24 = .ok (.aload_n 0, 1) := by decide +kernel
theorem dX10_puts_25 : decode cX10_puts 25 = .ok (.getfield 138, 3) := by decide +kernel
theorem dX10_puts_28 : decode cX10_puts 28 = .ok (.iload_n 3, 1) := by decide +kernel
theorem dX10_puts_29 : decode cX10_puts 29 = .ok (.iastore, 1) := by decide +kernel
theorem dX10_puts_30 : decode cX10_puts 30 = .ok (.aload_n 0, 1) := by decide +kernel
theorem dX10_puts_31 : decode cX10_puts 31 = .ok (.getfield 73, 3) := by decide +kernel
theorem dX10_puts_34 : decode cX10_puts 34 = .ok (.aload_n 0, 1) := by decide +kernel
theorem dX10_puts_35 : decode cX10_puts 35 = .ok (.getfield 138, 3) := by decide +kernel
theorem dX10_puts_38 : decode cX10_puts 38 = .ok (.iload 4, 2) := by decide +kernel
theorem dX10_puts_40 : decode cX10_puts 40 = .ok (.iastore, 1) := by decide +kernel
theorem dX10_puts_41 : decode cX10_puts 41 = .ok (.aload_n 0, 1) := by decide +kernel
theorem dX10_puts_42 : decode cX10_puts 42 = .ok (.getfield 76, 3) := by decide +kernel
theorem dX10_puts_45 : decode cX10_puts 45 = .ok (.aload_n 0, 1) := by decide +kernel
theorem dX10_puts_46 : decode cX10_puts 46 = .ok (.getfield 138, 3) := by decide +kernel
theorem dX10_puts_49 : decode cX10_puts 49 = .ok (.iload 5, 2) := by decide +kernel
theorem dX10_puts_51 : decode cX10_puts 51 = .ok (.iastore, 1) := by decide +kernel
theorem dX10_puts_52 : decode cX10_puts 52 = .ok (.aload_n 0, 1) := by decide +kernel
theorem dX10_puts_53 : decode cX10_puts 53 = .ok (.dup, 1) := by decide +kernel
theorem dX10_puts_54 : decode cX10_puts 54 = .ok (.getfield 138, 3) := by decide +kernel
theorem dX10_puts_57 : decode cX10_puts 57 = .ok (.iconst 1, 1) := by decide +kernel
theorem dX10_puts_58 : decode cX10_puts 58 = .ok (.iadd, 1) := by decide +kernel
theorem dX10_puts_59 : decode cX10_puts 59 = .ok (.putfield 138, 3) := by decide +kernel
theorem dX10_puts_62 : decode cX10_puts 62 = .ok (.return_, 1) := by decide +kernel
theorem dX10_waits_0 : decode cX10_waits 0 = .ok (.aload_n 0, 1) := by decide +kernel
theorem dX10_waits_1 : decode cX10_waits 1 = .ok (.getfield 79, 3) := by decide +kernel
theorem dX10_waits_4 : decode cX10_waits 4 = .ok (.aload_n 0, 1) := by decide +kernel
theorem dX10_waits_5 : decode cX10_waits 5 = .ok (.getfield 141, 3) := by decide +kernel
theorem dX10_waits_8 : decode cX10_waits 8 = .ok (.iload_n 1, 1) := by decide +kernel
theorem dX10_waits_9 : decode cX10_waits 9 = .ok (.iastore, 1) := by decide +kernel
theorem dX10_waits_10 : decode cX10_waits 10 = .ok (.aload_n 0, 1) := by decide +kernel
theorem dX10_waits_11 : decode cX10_waits 11 = .ok (.getfield 82, 3) := by decide +kernel
theorem dX10_waits_14 : decode cX10_waits 14 = .ok (.aload_n 0, 1) := by decide +kernel
theorem dX10_waits_15 : decode cX10_waits 15 = .ok (.getfield 141, 3) := by decide +kernel
theorem dX10_waits_18 : decode cX10_waits 18 = .ok (.iload_n 2, 1) := by decide +kernel
theorem dX10_waits_19 : decode cX10_waits 19 = .ok (.iastore, 1) := by decide +kernel
theorem dX10_waits_20 : decode cX10_waits 20 = .ok (.aload_n 0, 1) := by decide +kernel
theorem dX10_waits_21 : decode cX10_waits 21 = .ok (.dup, 1) := by decide +kernel
theorem dX10_waits_22 : decode cX10_waits 22 = .ok (.getfield 141, 3) := by decide +kernel
theorem dX10_waits_25 : decode cX10_waits 25 = .ok (.iconst 1, 1) := by decide +kernel
theorem dX10_waits_26 : decode cX10_waits 26 = .ok (.iadd, 1) := by decide +kernel
theorem dX10_waits_27 : decode cX10_waits 27 = .ok (.putfield 141, 3) := by decide +kernel
theorem dX10_waits_30 : decode cX10_waits 30 = .ok (.return_, 1) := by decide +kernel
theorem dX10_joins_0 : decode cX10_joins 0 = .ok (.aload_n 0, 1) := by decide +kernel
theorem dX10_joins_1 : decode cX10_joins 1 = .ok (.dup, 1) := by decide +kernel
theorem dX10_joins_2 : decode cX10_joins 2 = .ok (.getfield 141, 3) := by decide +kernel
theorem dX10_joins_5 : decode cX10_joins 5 = .ok (.iconst 1, 1) := by decide +kernel
theorem dX10_joins_6 : decode cX10_joins 6 = .ok (.isub, 1) := by decide +kernel
theorem dX10_joins_7 : decode cX10_joins 7 = .ok (.putfield 141, 3) := by decide +kernel
theorem dX10_joins_10 : decode cX10_joins 10 = .ok (.aload_n 0, 1) := by decide +kernel
theorem dX10_joins_11 : decode cX10_joins 11 = .ok (.aload_n 0, 1) := by decide +kernel
theorem dX10_joins_12 : decode cX10_joins 12 = .ok (.getfield 79, 3) := by decide +kernel
theorem dX10_joins_15 : decode cX10_joins 15 = .ok (.aload_n 0, 1) := by decide +kernel
theorem dX10_joins_16 : decode cX10_joins 16 = .ok (.getfield 141, 3) := by decide +kernel
theorem dX10_joins_19 : decode cX10_joins 19 = .ok (.iaload, 1) := by decide +kernel
theorem dX10_joins_20 : decode cX10_joins 20 = .ok (.iconst 0, 1) := by decide +kernel
theorem dX10_joins_21 : decode cX10_joins 21 = .ok (.iconst 0, 1) := by decide +kernel
theorem dX10_joins_22 : decode cX10_joins 22 = .ok (.aload_n 0, 1) := by decide +kernel
theorem dX10_joins_23 : decode cX10_joins 23 = .ok (.getfield 82, 3) := by decide +kernel
theorem dX10_joins_26 : decode cX10_joins 26 = .ok (.aload_n 0, 1) := by decide +kernel
theorem dX10_joins_27 : decode cX10_joins 27 = .ok (.getfield 141, 3) := by decide +kernel
theorem dX10_joins_30 : decode cX10_joins 30 = .ok (.iaload, 1) := by decide +kernel
theorem dX10_joins_31 : decode cX10_joins 31 = .ok (.iconst (-1), 1) := by decide +kernel
theorem dX10_joins_32 : decode cX10_joins 32 = .ok (.invokevirtual 144, 3) := by decide +kernel
theorem dX10_joins_35 : decode cX10_joins 35 = .ok (.return_, 1) := by decide +kernel
theorem dX10_opens_0 : decode cX10_opens 0 = .ok (.aload_n 0, 1) := by decide +kernel
theorem dX10_opens_1 : decode cX10_opens 1 = .ok (.getfield 148, 3) := by decide +kernel
theorem dX10_opens_4 : decode cX10_opens 4 = .ok (.bipush 6, 2) := by decide +kernel
theorem dX10_opens_6 : decode cX10_opens 6 = .ok (.if_icmp .ne 12, 3) := by decide +kernel
theorem dX10_opens_9 : decode cX10_opens 9 = .ok (.aload_n 0, 1) := by decide +kernel
theorem dX10_opens_10 : decode cX10_opens 10 = .ok (.iconst 2, 1) := by decide +kernel
theorem dX10_opens_11 : decode cX10_opens 11 = .ok (.aload_n 0, 1) := by decide +kernel
theorem dX10_opens_12 : decode cX10_opens 12 = .ok (.getfield 126, 3) := by decide +kernel
theorem dX10_opens_15 : decode cX10_opens 15 = .ok (.invokevirtual 151, 3) := by decide +kernel
theorem dX10_opens_18 : decode cX10_opens 18 = .ok (.aload_n 0, 1) := by decide +kernel
theorem dX10_opens_19 : decode cX10_opens 19 = .ok (.iload_n 1, 1) := by decide +kernel
theorem dX10_opens_20 : decode cX10_opens 20 = .ok (.iconst (-1), 1) := by decide +kernel
theorem dX10_opens_21 : decode cX10_opens 21 = .ok (.invokevirtual 155, 3) := by decide +kernel
theorem dX10_opens_24 : decode cX10_opens 24 = .ok (.aload_n 0, 1) := by decide +kernel
theorem dX10_opens_25 : decode cX10_opens 25 = .ok (.dup, 1) := by decide +kernel
theorem dX10_opens_26 : decode cX10_opens 26 = .ok (.getfield 148, 3) := by decide +kernel
theorem dX10_opens_29 : decode cX10_opens 29 = .ok (.iconst 1, 1) := by decide +kernel
theorem dX10_opens_30 : decode cX10_opens 30 = .ok (.iadd, 1) := by decide +kernel
theorem dX10_opens_31 : decode cX10_opens 31 = .ok (.putfield 148, 3) := by decide +kernel
theorem dX10_opens_34 : decode cX10_opens 34 = .ok (.aload_n 0, 1) := by decide +kernel
theorem dX10_opens_35 : decode cX10_opens 35 = .ok (.dup, 1) := by decide +kernel
theorem dX10_opens_36 : decode cX10_opens 36 = .ok (.getfield 126, 3) := by decide +kernel
theorem dX10_opens_39 : decode cX10_opens 39 = .ok (.iconst 1, 1) := by decide +kernel
theorem dX10_opens_40 : decode cX10_opens 40 = .ok (.iadd, 1) := by decide +kernel
theorem dX10_opens_41 : decode cX10_opens 41 = .ok (.putfield 126, 3) := by decide +kernel
theorem dX10_opens_44 : decode cX10_opens 44 = .ok (.return_, 1) := by decide +kernel
theorem dX10_must_0 : decode cX10_must 0 = .ok (.aload_n 0, 1) := by decide +kernel
theorem dX10_must_1 : decode cX10_must 1 = .ok (.invokevirtual 158, 3) := by decide +kernel
theorem dX10_must_4 : decode cX10_must 4 = .ok (.iload_n 1, 1) := by decide +kernel
theorem dX10_must_5 : decode cX10_must 5 = .ok (.if_icmp .ne 14, 3) := by decide +kernel
theorem dX10_must_8 : decode cX10_must 8 = .ok (.aload_n 0, 1) := by decide +kernel
theorem dX10_must_9 : decode cX10_must 9 = .ok (.getfield 126, 3) := by decide +kernel
theorem dX10_must_12 : decode cX10_must 12 = .ok (.aload_n 0, 1) := by decide +kernel
theorem dX10_must_13 : decode cX10_must 13 = .ok (.getfield 129, 3) := by decide +kernel
theorem dX10_must_16 : decode cX10_must 16 = .ok (.if_icmp .lt 12, 3) := by decide +kernel
theorem dX10_must_19 : decode cX10_must 19 = .ok (.aload_n 0, 1) := by decide +kernel
theorem dX10_must_20 : decode cX10_must 20 = .ok (.iconst 1, 1) := by decide +kernel
theorem dX10_must_21 : decode cX10_must 21 = .ok (.aload_n 0, 1) := by decide +kernel
theorem dX10_must_22 : decode cX10_must 22 = .ok (.getfield 126, 3) := by decide +kernel
theorem dX10_must_25 : decode cX10_must 25 = .ok (.invokevirtual 151, 3) := by decide +kernel
theorem dX10_must_28 : decode cX10_must 28 = .ok (.aload_n 0, 1) := by decide +kernel
theorem dX10_must_29 : decode cX10_must 29 = .ok (.dup, 1) := by decide +kernel
theorem dX10_must_30 : decode cX10_must 30 = .ok (.getfield 126, 3) := by decide +kernel
theorem dX10_must_33 : decode cX10_must 33 = .ok (.iconst 1, 1) := by decide +kernel
theorem dX10_must_34 : decode cX10_must 34 = .ok (.iadd, 1) := by decide +kernel
theorem dX10_must_35 : decode cX10_must 35 = .ok (.putfield 126, 3) := by decide +kernel
theorem dX10_must_38 : decode cX10_must 38 = .ok (.return_, 1) := by decide +kernel
theorem dX10_seesDigit_0 : decode cX10_seesDigit 0 = .ok (.aload_n 0, 1) := by decide +kernel
theorem dX10_seesDigit_1 : decode cX10_seesDigit 1 = .ok (.invokevirtual 158, 3) := by decide +kernel
theorem dX10_seesDigit_4 : decode cX10_seesDigit 4 = .ok (.bipush 48, 2) := by decide +kernel
theorem dX10_seesDigit_6 : decode cX10_seesDigit 6 = .ok (.bipush 57, 2) := by decide +kernel
theorem dX10_seesDigit_8 : decode cX10_seesDigit 8 = .ok (.invokestatic 104, 3) := by decide +kernel
theorem dX10_seesDigit_11 : decode cX10_seesDigit 11 = .ok (.ireturn, 1) := by decide +kernel
theorem dX10_readNumber_0 : decode cX10_readNumber 0 = .ok (.aload_n 0, 1) := by decide +kernel
theorem dX10_readNumber_1 : decode cX10_readNumber 1 = .ok (.getfield 126, 3) := by decide +kernel
theorem dX10_readNumber_4 : decode cX10_readNumber 4 = .ok (.istore_n 1, 1) := by decide +kernel
theorem dX10_readNumber_5 : decode cX10_readNumber 5 = .ok (.iconst 0, 1) := by decide +kernel
theorem dX10_readNumber_6 : decode cX10_readNumber 6 = .ok (.istore_n 2, 1) := by decide +kernel
theorem dX10_readNumber_7 : decode cX10_readNumber 7 = .ok (.aload_n 0, 1) := by decide +kernel
theorem dX10_readNumber_8 : decode cX10_readNumber 8 = .ok (.getfield 132, 3) := by decide +kernel
theorem dX10_readNumber_11 : decode cX10_readNumber 11 = .ok (.ifCond .ne 55, 3) := by decide +kernel
theorem dX10_readNumber_14 : decode cX10_readNumber 14 = .ok (.aload_n 0, 1) := by decide +kernel
theorem dX10_readNumber_15 : decode cX10_readNumber 15 = .ok (.invokevirtual 162, 3) := by decide +kernel
theorem dX10_readNumber_18 : decode cX10_readNumber 18 = .ok (.ifCond .eq 48, 3) := by decide +kernel
theorem dX10_readNumber_21 : decode cX10_readNumber 21 = .ok (.aload_n 0, 1) := by decide +kernel
theorem dX10_readNumber_22 : decode cX10_readNumber 22 = .ok (.getfield 126, 3) := by decide +kernel
theorem dX10_readNumber_25 : decode cX10_readNumber 25 = .ok (.iload_n 1, 1) := by decide +kernel
theorem dX10_readNumber_26 : decode cX10_readNumber 26 = .ok (.iconst 4, 1) := by decide +kernel
theorem dX10_readNumber_27 : decode cX10_readNumber 27 = .ok (.iadd, 1) := by decide +kernel
theorem dX10_readNumber_28 : decode cX10_readNumber 28 = .ok (.if_icmp .ne 12, 3) := by decide +kernel
theorem dX10_readNumber_31 : decode cX10_readNumber 31 = .ok (.aload_n 0, 1) := by decide +kernel
theorem dX10_readNumber_32 : decode cX10_readNumber 32 = .ok (.iconst 1, 1) := by decide +kernel
theorem dX10_readNumber_33 : decode cX10_readNumber 33 = .ok (.aload_n 0, 1) := by decide +kernel
theorem dX10_readNumber_34 : decode cX10_readNumber 34 = .ok (.getfield 126, 3) := by decide +kernel
theorem dX10_readNumber_37 : decode cX10_readNumber 37 = .ok (.invokevirtual 151, 3) := by decide +kernel
theorem dX10_readNumber_40 : decode cX10_readNumber 40 = .ok (.bipush 10, 2) := by decide +kernel
theorem dX10_readNumber_42 : decode cX10_readNumber 42 = .ok (.iload_n 2, 1) := by decide +kernel
theorem dX10_readNumber_43 : decode cX10_readNumber 43 = .ok (.imul, 1) := by decide +kernel
theorem dX10_readNumber_44 : decode cX10_readNumber 44 = .ok (.aload_n 0, 1) := by decide +kernel
theorem dX10_readNumber_45 : decode cX10_readNumber 45 = .ok (.invokevirtual 158, 3) := by decide +kernel
theorem dX10_readNumber_48 : decode cX10_readNumber 48 = .ok (.iadd, 1) := by decide +kernel
theorem dX10_readNumber_49 : decode cX10_readNumber 49 = .ok (.bipush 48, 2) := by decide +kernel
theorem dX10_readNumber_51 : decode cX10_readNumber 51 = .ok (.isub, 1) := by decide +kernel
theorem dX10_readNumber_52 : decode cX10_readNumber 52 = .ok (.istore_n 2, 1) := by decide +kernel
theorem dX10_readNumber_53 : decode cX10_readNumber 53 = .ok (.aload_n 0, 1) := by decide +kernel
theorem dX10_readNumber_54 : decode cX10_readNumber 54 = .ok (.dup, 1) := by decide +kernel
theorem dX10_readNumber_55 : decode cX10_readNumber 55 = .ok (.getfield 126, 3) := by decide +kernel
theorem dX10_readNumber_58 : decode cX10_readNumber 58 = .ok (.iconst 1, 1) := by decide +kernel
theorem dX10_readNumber_59 : decode cX10_readNumber 59 = .ok (.iadd, 1) := by decide +kernel
theorem dX10_readNumber_60 : decode cX10_readNumber 60 = .ok (.putfield 126, 3) := by decide +kernel
theorem dX10_readNumber_63 : decode cX10_readNumber 63 = .ok (.goto (-56), 3) := by decide +kernel
theorem dX10_readNumber_66 : decode cX10_readNumber 66 = .ok (.iload_n 2, 1) := by decide +kernel
theorem dX10_readNumber_67 : decode cX10_readNumber 67 = .ok (.ireturn, 1) := by decide +kernel
theorem dX10_readCell_0 : decode cX10_readCell 0 = .ok (.aload_n 0, 1) := by decide +kernel
theorem dX10_readCell_1 : decode cX10_readCell 1 = .ok (.invokevirtual 158, 3) := by decide +kernel
theorem dX10_readCell_4 : decode cX10_readCell 4 = .ok (.bipush 65, 2) := by decide +kernel
theorem dX10_readCell_6 : decode cX10_readCell 6 = .ok (.isub, 1) := by decide +kernel
theorem dX10_readCell_7 : decode cX10_readCell 7 = .ok (.istore_n 1, 1) := by decide +kernel
theorem dX10_readCell_8 : decode cX10_readCell 8 = .ok (.iload_n 1, 1) := by decide +kernel
theorem dX10_readCell_9 : decode cX10_readCell 9 = .ok (.iconst 0, 1) := by decide +kernel
theorem dX10_readCell_10 : decode cX10_readCell 10 = .ok (.bipush 7, 2) := by decide +kernel
theorem dX10_readCell_12 : decode cX10_readCell 12 = .ok (.invokestatic 104, 3) := by decide +kernel
theorem dX10_readCell_15 : decode cX10_readCell 15 = .ok (.ifCond .ne 12, 3) := by decide +kernel
theorem dX10_readCell_18 : decode cX10_readCell 18 = .ok (.aload_n 0, 1) := by decide +kernel
theorem dX10_readCell_19 : decode cX10_readCell 19 = .ok (.iconst 1, 1) := by decide +kernel
theorem dX10_readCell_20 : decode cX10_readCell 20 = .ok (.aload_n 0, 1) := by decide +kernel
theorem dX10_readCell_21 : decode cX10_readCell 21 = .ok (.getfield 126, 3) := by decide +kernel
theorem dX10_readCell_24 : decode cX10_readCell 24 = .ok (.invokevirtual 151, 3) := by decide +kernel
theorem dX10_readCell_27 : decode cX10_readCell 27 = .ok (.aload_n 0, 1) := by decide +kernel
theorem dX10_readCell_28 : decode cX10_readCell 28 = .ok (.dup, 1) := by decide +kernel
theorem dX10_readCell_29 : decode cX10_readCell 29 = .ok (.getfield 126, 3) := by decide +kernel
theorem dX10_readCell_32 : decode cX10_readCell 32 = .ok (.iconst 1, 1) := by decide +kernel
theorem dX10_readCell_33 : decode cX10_readCell 33 = .ok (.iadd, 1) := by decide +kernel
theorem dX10_readCell_34 : decode cX10_readCell 34 = .ok (.putfield 126, 3) := by decide +kernel
theorem dX10_readCell_37 : decode cX10_readCell 37 = .ok (.aload_n 0, 1) := by decide +kernel
theorem dX10_readCell_38 : decode cX10_readCell 38 = .ok (.invokevirtual 158, 3) := by decide +kernel
theorem dX10_readCell_41 : decode cX10_readCell 41 = .ok (.bipush 49, 2) := by decide +kernel
theorem dX10_readCell_43 : decode cX10_readCell 43 = .ok (.isub, 1) := by decide +kernel
theorem dX10_readCell_44 : decode cX10_readCell 44 = .ok (.istore_n 2, 1) := by decide +kernel
theorem dX10_readCell_45 : decode cX10_readCell 45 = .ok (.iload_n 2, 1) := by decide +kernel
theorem dX10_readCell_46 : decode cX10_readCell 46 = .ok (.iconst 0, 1) := by decide +kernel
theorem dX10_readCell_47 : decode cX10_readCell 47 = .ok (.bipush 7, 2) := by decide +kernel
theorem dX10_readCell_49 : decode cX10_readCell 49 = .ok (.invokestatic 104, 3) := by decide +kernel
theorem dX10_readCell_52 : decode cX10_readCell 52 = .ok (.ifCond .ne 12, 3) := by decide +kernel
theorem dX10_readCell_55 : decode cX10_readCell 55 = .ok (.aload_n 0, 1) := by decide +kernel
theorem dX10_readCell_56 : decode cX10_readCell 56 = .ok (.iconst 1, 1) := by decide +kernel
theorem dX10_readCell_57 : decode cX10_readCell 57 = .ok (.aload_n 0, 1) := by decide +kernel
theorem dX10_readCell_58 : decode cX10_readCell 58 = .ok (.getfield 126, 3) := by decide +kernel
theorem dX10_readCell_61 : decode cX10_readCell 61 = .ok (.invokevirtual 151, 3) := by decide +kernel
theorem dX10_readCell_64 : decode cX10_readCell 64 = .ok (.aload_n 0, 1) := by decide +kernel
theorem dX10_readCell_65 : decode cX10_readCell 65 = .ok (.dup, 1) := by decide +kernel
theorem dX10_readCell_66 : decode cX10_readCell 66 = .ok (.getfield 126, 3) := by decide +kernel
theorem dX10_readCell_69 : decode cX10_readCell 69 = .ok (.iconst 1, 1) := by decide +kernel
theorem dX10_readCell_70 : decode cX10_readCell 70 = .ok (.iadd, 1) := by decide +kernel
theorem dX10_readCell_71 : decode cX10_readCell 71 = .ok (.putfield 126, 3) := by decide +kernel
theorem dX10_readCell_74 : decode cX10_readCell 74 = .ok (.bipush 8, 2) := by decide +kernel
theorem dX10_readCell_76 : decode cX10_readCell 76 = .ok (.iload_n 2, 1) := by decide +kernel
theorem dX10_readCell_77 : decode cX10_readCell 77 = .ok (.imul, 1) := by decide +kernel
theorem dX10_readCell_78 : decode cX10_readCell 78 = .ok (.iload_n 1, 1) := by decide +kernel
theorem dX10_readCell_79 : decode cX10_readCell 79 = .ok (.iadd, 1) := by decide +kernel
theorem dX10_readCell_80 : decode cX10_readCell 80 = .ok (.ireturn, 1) := by decide +kernel
theorem dX10_factorEnds_0 : decode cX10_factorEnds 0 = .ok (.aload_n 0, 1) := by decide +kernel
theorem dX10_factorEnds_1 : decode cX10_factorEnds 1 = .ok (.getfield 141, 3) := by decide +kernel
theorem dX10_factorEnds_4 : decode cX10_factorEnds 4 = .ok (.ifCond .le 35, 3) := by decide +kernel
theorem dX10_factorEnds_7 : decode cX10_factorEnds 7 = .ok (.aload_n 0, 1) := by decide +kernel
theorem dX10_factorEnds_8 : decode cX10_factorEnds 8 = .ok (.getfield 79, 3) := by decide +kernel
theorem dX10_factorEnds_11 : decode cX10_factorEnds 11 = .ok (.aload_n 0, 1) := by decide +kernel
theorem dX10_factorEnds_12 : decode cX10_factorEnds 12 = .ok (.getfield 141, 3) := by decide +kernel
theorem dX10_factorEnds_15 : decode cX10_factorEnds 15 = .ok (.iconst 1, 1) := by decide +kernel
theorem dX10_factorEnds_16 : decode cX10_factorEnds 16 = .ok (.isub, 1) := by decide +kernel
theorem dX10_factorEnds_17 : decode cX10_factorEnds 17 = .ok (.iaload, 1) := by decide +kernel
theorem dX10_factorEnds_18 : decode cX10_factorEnds 18 = .ok (.iconst 3, 1) := by decide +kernel
theorem dX10_factorEnds_19 : decode cX10_factorEnds 19 = .ok (.if_icmp .ne 20, 3) := by decide +kernel
theorem dX10_factorEnds_22 : decode cX10_factorEnds 22 = .ok (.aload_n 0, 1) := by decide +kernel
theorem dX10_factorEnds_23 : decode cX10_factorEnds 23 = .ok (.invokevirtual 166, 3) := by decide +kernel
theorem dX10_factorEnds_26 : decode cX10_factorEnds 26 = .ok (.aload_n 0, 1) := by decide +kernel
theorem dX10_factorEnds_27 : decode cX10_factorEnds 27 = .ok (.dup, 1) := by decide +kernel
theorem dX10_factorEnds_28 : decode cX10_factorEnds 28 = .ok (.getfield 148, 3) := by decide +kernel
theorem dX10_factorEnds_31 : decode cX10_factorEnds 31 = .ok (.iconst 1, 1) := by decide +kernel
theorem dX10_factorEnds_32 : decode cX10_factorEnds 32 = .ok (.isub, 1) := by decide +kernel
theorem dX10_factorEnds_33 : decode cX10_factorEnds 33 = .ok (.putfield 148, 3) := by decide +kernel
theorem dX10_factorEnds_36 : decode cX10_factorEnds 36 = .ok (.goto (-36), 3) := by decide +kernel
theorem dX10_factorEnds_39 : decode cX10_factorEnds 39 = .ok (.aload_n 0, 1) := by decide +kernel
theorem dX10_factorEnds_40 : decode cX10_factorEnds 40 = .ok (.getfield 141, 3) := by decide +kernel
theorem dX10_factorEnds_43 : decode cX10_factorEnds 43 = .ok (.ifCond .le 39, 3) := by decide +kernel
theorem dX10_factorEnds_46 : decode cX10_factorEnds 46 = .ok (.aload_n 0, 1) := by decide +kernel
theorem dX10_factorEnds_47 : decode cX10_factorEnds 47 = .ok (.getfield 79, 3) := by decide +kernel
theorem dX10_factorEnds_50 : decode cX10_factorEnds 50 = .ok (.aload_n 0, 1) := by decide +kernel
theorem dX10_factorEnds_51 : decode cX10_factorEnds 51 = .ok (.getfield 141, 3) := by decide +kernel
theorem dX10_factorEnds_54 : decode cX10_factorEnds 54 = .ok (.iconst 1, 1) := by decide +kernel
theorem dX10_factorEnds_55 : decode cX10_factorEnds 55 = .ok (.isub, 1) := by decide +kernel
theorem dX10_factorEnds_56 : decode cX10_factorEnds 56 = .ok (.iaload, 1) := by decide +kernel
theorem dX10_factorEnds_57 : decode cX10_factorEnds 57 = .ok (.bipush 6, 2) := by decide +kernel
theorem dX10_factorEnds_59 : decode cX10_factorEnds 59 = .ok (.if_icmp .eq 19, 3) := by decide +kernel
theorem dX10_factorEnds_62 : decode cX10_factorEnds 62 = .ok (.aload_n 0, 1) := by decide +kernel
theorem dX10_factorEnds_63 : decode cX10_factorEnds 63 = .ok (.getfield 79, 3) := by decide +kernel
theorem dX10_factorEnds_66 : decode cX10_factorEnds 66 = .ok (.aload_n 0, 1) := by decide +kernel
theorem dX10_factorEnds_67 : decode cX10_factorEnds 67 = .ok (.getfield 141, 3) := by decide +kernel
theorem dX10_factorEnds_70 : decode cX10_factorEnds 70 = .ok (.iconst 1, 1) := by decide +kernel
theorem dX10_factorEnds_71 : decode cX10_factorEnds 71 = .ok (.isub, 1) := by decide +kernel
theorem dX10_factorEnds_72 : decode cX10_factorEnds 72 = .ok (.iaload, 1) := by decide +kernel
theorem dX10_factorEnds_73 : decode cX10_factorEnds 73 = .ok (.bipush 7, 2) := by decide +kernel
theorem dX10_factorEnds_75 : decode cX10_factorEnds 75 = .ok (.if_icmp .ne 7, 3) := by decide +kernel
theorem dX10_factorEnds_78 : decode cX10_factorEnds 78 = .ok (.aload_n 0, 1) := by decide +kernel
theorem dX10_factorEnds_79 : decode cX10_factorEnds 79 = .ok (.invokevirtual 166, 3) := by decide +kernel
theorem dX10_factorEnds_82 : decode cX10_factorEnds 82 = .ok (.return_, 1) := by decide +kernel
theorem dX10_sumEnds_0 : decode cX10_sumEnds 0 = .ok (.aload_n 0, 1) := by decide +kernel
theorem dX10_sumEnds_1 : decode cX10_sumEnds 1 = .ok (.getfield 141, 3) := by decide +kernel
theorem dX10_sumEnds_4 : decode cX10_sumEnds 4 = .ok (.ifCond .le 37, 3) := by decide +kernel
theorem dX10_sumEnds_7 : decode cX10_sumEnds 7 = .ok (.aload_n 0, 1) := by decide +kernel
theorem dX10_sumEnds_8 : decode cX10_sumEnds 8 = .ok (.getfield 79, 3) := by decide +kernel
theorem dX10_sumEnds_11 : decode cX10_sumEnds 11 = .ok (.aload_n 0, 1) := by decide +kernel
theorem dX10_sumEnds_12 : decode cX10_sumEnds 12 = .ok (.getfield 141, 3) := by decide +kernel
theorem dX10_sumEnds_15 : decode cX10_sumEnds 15 = .ok (.iconst 1, 1) := by decide +kernel
theorem dX10_sumEnds_16 : decode cX10_sumEnds 16 = .ok (.isub, 1) := by decide +kernel
theorem dX10_sumEnds_17 : decode cX10_sumEnds 17 = .ok (.iaload, 1) := by decide +kernel
theorem dX10_sumEnds_18 : decode cX10_sumEnds 18 = .ok (.iconst 4, 1) := by decide +kernel
theorem dX10_sumEnds_19 : decode cX10_sumEnds 19 = .ok (.if_icmp .eq 18, 3) := by decide +kernel
theorem dX10_sumEnds_22 : decode cX10_sumEnds 22 = .ok (.aload_n 0, 1) := by decide +kernel
theorem dX10_sumEnds_23 : decode cX10_sumEnds 23 = .ok (.getfield 79, 3) := by decide +kernel
theorem dX10_sumEnds_26 : decode cX10_sumEnds 26 = .ok (.aload_n 0, 1) := by decide +kernel
theorem dX10_sumEnds_27 : decode cX10_sumEnds 27 = .ok (.getfield 141, 3) := by decide +kernel
theorem dX10_sumEnds_30 : decode cX10_sumEnds 30 = .ok (.iconst 1, 1) := by decide +kernel
theorem dX10_sumEnds_31 : decode cX10_sumEnds 31 = .ok (.isub, 1) := by decide +kernel
theorem dX10_sumEnds_32 : decode cX10_sumEnds 32 = .ok (.iaload, 1) := by decide +kernel
theorem dX10_sumEnds_33 : decode cX10_sumEnds 33 = .ok (.iconst 5, 1) := by decide +kernel
theorem dX10_sumEnds_34 : decode cX10_sumEnds 34 = .ok (.if_icmp .ne 7, 3) := by decide +kernel
theorem dX10_sumEnds_37 : decode cX10_sumEnds 37 = .ok (.aload_n 0, 1) := by decide +kernel
theorem dX10_sumEnds_38 : decode cX10_sumEnds 38 = .ok (.invokevirtual 166, 3) := by decide +kernel
theorem dX10_sumEnds_41 : decode cX10_sumEnds 41 = .ok (.return_, 1) := by decide +kernel
theorem dX10_factor_0 : decode cX10_factor 0 = .ok (.aload_n 0, 1) := by decide +kernel
theorem dX10_factor_1 : decode cX10_factor 1 = .ok (.invokevirtual 158, 3) := by decide +kernel
theorem dX10_factor_4 : decode cX10_factor 4 = .ok (.istore_n 1, 1) := by decide +kernel
theorem dX10_factor_5 : decode cX10_factor 5 = .ok (.aload_n 0, 1) := by decide +kernel
theorem dX10_factor_6 : decode cX10_factor 6 = .ok (.getfield 126, 3) := by decide +kernel
theorem dX10_factor_9 : decode cX10_factor 9 = .ok (.istore_n 2, 1) := by decide +kernel
theorem dX10_factor_10 : decode cX10_factor 10 = .ok (.iload_n 1, 1) := by decide +kernel
theorem dX10_factor_11 : decode cX10_factor 11 = .ok (.bipush 45, 2) := by decide +kernel
theorem dX10_factor_13 : decode cX10_factor 13 = .ok (.if_icmp .ne 10, 3) := by decide +kernel
theorem dX10_factor_16 : decode cX10_factor 16 = .ok (.aload_n 0, 1) := by decide +kernel
theorem dX10_factor_17 : decode cX10_factor 17 = .ok (.iconst 3, 1) := by decide +kernel
theorem dX10_factor_18 : decode cX10_factor 18 = .ok (.invokevirtual 169, 3) := by decide +kernel
theorem dX10_factor_21 : decode cX10_factor 21 = .ok (.iconst 0, 1) := by decide +kernel
theorem dX10_factor_22 : decode cX10_factor 22 = .ok (.ireturn, 1) := by decide +kernel
theorem dX10_factor_23 : decode cX10_factor 23 = .ok (.iload_n 1, 1) := by decide +kernel
theorem dX10_factor_24 : decode cX10_factor 24 = .ok (.bipush 40, 2) := by decide +kernel
theorem dX10_factor_26 : decode cX10_factor 26 = .ok (.if_icmp .ne 11, 3) := by decide +kernel
theorem dX10_factor_29 : decode cX10_factor 29 = .ok (.aload_n 0, 1) := by decide +kernel
theorem dX10_factor_30 : decode cX10_factor 30 = .ok (.bipush 9, 2) := by decide +kernel
theorem dX10_factor_32 : decode cX10_factor 32 = .ok (.invokevirtual 169, 3) := by decide +kernel
theorem dX10_factor_35 : decode cX10_factor 35 = .ok (.iconst 0, 1) := by decide +kernel
theorem dX10_factor_36 : decode cX10_factor 36 = .ok (.ireturn, 1) := by decide +kernel
theorem dX10_factor_37 : decode cX10_factor 37 = .ok (.iload_n 1, 1) := by decide +kernel
theorem dX10_factor_38 : decode cX10_factor 38 = .ok (.bipush 77, 2) := by decide +kernel
theorem dX10_factor_40 : decode cX10_factor 40 = .ok (.if_icmp .ne 24, 3) := by decide +kernel
theorem dX10_factor_43 : decode cX10_factor 43 = .ok (.aload_n 0, 1) := by decide +kernel
theorem dX10_factor_44 : decode cX10_factor 44 = .ok (.bipush 10, 2) := by decide +kernel
theorem dX10_factor_46 : decode cX10_factor 46 = .ok (.invokevirtual 169, 3) := by decide +kernel
theorem dX10_factor_49 : decode cX10_factor 49 = .ok (.aload_n 0, 1) := by decide +kernel
theorem dX10_factor_50 : decode cX10_factor 50 = .ok (.getfield 132, 3) := by decide +kernel
theorem dX10_factor_53 : decode cX10_factor 53 = .ok (.ifCond .ne 9, 3) := by decide +kernel
theorem dX10_factor_56 : decode cX10_factor 56 = .ok (.aload_n 0, 1) := by decide +kernel
theorem dX10_factor_57 : decode cX10_factor 57 = .ok (.bipush 40, 2) := by decide +kernel
theorem dX10_factor_59 : decode cX10_factor 59 = .ok (.invokevirtual 172, 3) := by decide +kernel
theorem dX10_factor_62 : decode cX10_factor 62 = .ok (.iconst 0, 1) := by decide +kernel
theorem dX10_factor_63 : decode cX10_factor 63 = .ok (.ireturn, 1) := by decide +kernel
theorem dX10_factor_64 : decode cX10_factor 64 = .ok (.iload_n 1, 1) := by decide +kernel
theorem dX10_factor_65 : decode cX10_factor 65 = .ok (.bipush 83, 2) := by decide +kernel
theorem dX10_factor_67 : decode cX10_factor 67 = .ok (.if_icmp .ne 136, 3) := by decide +kernel
theorem dX10_factor_70 : decode cX10_factor 70 = .ok (.aload_n 0, 1) := by decide +kernel
theorem dX10_factor_71 : decode cX10_factor 71 = .ok (.getfield 148, 3) := by decide +kernel
theorem dX10_factor_74 : decode cX10_factor 74 = .ok (.bipush 6, 2) := by decide +kernel
theorem dX10_factor_76 : decode cX10_factor 76 = .ok (.if_icmp .ne 12, 3) := by decide +kernel
theorem dX10_factor_79 : decode cX10_factor 79 = .ok (.aload_n 0, 1) := by decide +kernel
theorem dX10_factor_80 : decode cX10_factor 80 = .ok (.iconst 2, 1) := by decide +kernel
theorem dX10_factor_81 : decode cX10_factor 81 = .ok (.aload_n 0, 1) := by decide +kernel
theorem dX10_factor_82 : decode cX10_factor 82 = .ok (.getfield 126, 3) := by decide +kernel
theorem dX10_factor_85 : decode cX10_factor 85 = .ok (.invokevirtual 151, 3) := by decide +kernel
theorem dX10_factor_88 : decode cX10_factor 88 = .ok (.aload_n 0, 1) := by decide +kernel
theorem dX10_factor_89 : decode cX10_factor 89 = .ok (.dup, 1) := by decide +kernel
theorem dX10_factor_90 : decode cX10_factor 90 = .ok (.getfield 126, 3) := by decide +kernel
theorem dX10_factor_93 : decode cX10_factor 93 = .ok (.iconst 1, 1) := by decide +kernel
theorem dX10_factor_94 : decode cX10_factor 94 = .ok (.iadd, 1) := by decide +kernel
theorem dX10_factor_95 : decode cX10_factor 95 = .ok (.putfield 126, 3) := by decide +kernel
theorem dX10_factor_98 : decode cX10_factor 98 = .ok (.aload_n 0, 1) := by decide +kernel
theorem dX10_factor_99 : decode cX10_factor 99 = .ok (.getfield 132, 3) := by decide +kernel
theorem dX10_factor_102 : decode cX10_factor 102 = .ok (.ifCond .ne 9, 3) := by decide +kernel
theorem dX10_factor_105 : decode cX10_factor 105 = .ok (.aload_n 0, 1) := by decide +kernel
theorem dX10_factor_106 : decode cX10_factor 106 = .ok (.bipush 40, 2) := by decide +kernel
theorem dX10_factor_108 : decode cX10_factor 108 = .ok (.invokevirtual 172, 3) := by decide +kernel
theorem dX10_factor_111 : decode cX10_factor 111 = .ok (.aload_n 0, 1) := by decide +kernel
theorem dX10_factor_112 : decode cX10_factor 112 = .ok (.getfield 126, 3) := by decide +kernel
theorem dX10_factor_115 : decode cX10_factor 115 = .ok (.istore_n 3, 1) := by decide +kernel
theorem dX10_factor_116 : decode cX10_factor 116 = .ok (.aload_n 0, 1) := by decide +kernel
theorem dX10_factor_117 : decode cX10_factor 117 = .ok (.getfield 132, 3) := by decide +kernel
theorem dX10_factor_120 : decode cX10_factor 120 = .ok (.ifCond .ne 10, 3) := by decide +kernel
theorem dX10_factor_123 : decode cX10_factor 123 = .ok (.aload_n 0, 1) := by decide +kernel
theorem dX10_factor_124 : decode cX10_factor 124 = .ok (.invokevirtual 175, 3) := by decide +kernel
theorem dX10_factor_127 : decode cX10_factor 127 = .ok (.goto 4, 3) := by decide +kernel
theorem dX10_factor_130 : decode cX10_factor 130 = .ok (.iconst 0, 1) := by decide +kernel
theorem dX10_factor_131 : decode cX10_factor 131 = .ok (.istore 4, 2) := by decide +kernel
theorem dX10_factor_133 : decode cX10_factor 133 = .ok (.aload_n 0, 1) := by decide +kernel
theorem dX10_factor_134 : decode cX10_factor 134 = .ok (.getfield 132, 3) := by decide +kernel
theorem dX10_factor_137 : decode cX10_factor 137 = .ok (.ifCond .ne 9, 3) := by decide +kernel
theorem dX10_factor_140 : decode cX10_factor 140 = .ok (.aload_n 0, 1) := by decide +kernel
theorem dX10_factor_141 : decode cX10_factor 141 = .ok (.bipush 58, 2) := by decide +kernel
theorem dX10_factor_143 : decode cX10_factor 143 = .ok (.invokevirtual 172, 3) := by decide +kernel
theorem dX10_factor_146 : decode cX10_factor 146 = .ok (.aload_n 0, 1) := by decide +kernel
theorem dX10_factor_147 : decode cX10_factor 147 = .ok (.getfield 126, 3) := by decide +kernel
theorem dX10_factor_150 : decode cX10_factor 150 = .ok (.istore 5, 2) := by decide +kernel
theorem dX10_factor_152 : decode cX10_factor 152 = .ok (.aload_n 0, 1) := by decide +kernel
theorem dX10_factor_153 : decode cX10_factor 153 = .ok (.getfield 132, 3) := by decide +kernel
theorem dX10_factor_156 : decode cX10_factor 156 = .ok (.ifCond .ne 10, 3) := by decide +kernel
theorem dX10_factor_159 : decode cX10_factor 159 = .ok (.aload_n 0, 1) := by decide +kernel
theorem dX10_factor_160 : decode cX10_factor 160 = .ok (.invokevirtual 175, 3) := by decide +kernel
theorem dX10_factor_163 : decode cX10_factor 163 = .ok (.goto 4, 3) := by decide +kernel
theorem dX10_factor_166 : decode cX10_factor 166 = .ok (.iconst 0, 1) := by decide +kernel
theorem dX10_factor_167 : decode cX10_factor 167 = .ok (.istore 6, 2) := by decide +kernel
theorem dX10_factor_169 : decode cX10_factor 169 = .ok (.aload_n 0, 1) := by decide +kernel
theorem dX10_factor_170 : decode cX10_factor 170 = .ok (.getfield 132, 3) := by decide +kernel
theorem dX10_factor_173 : decode cX10_factor 173 = .ok (.ifCond .ne 9, 3) := by decide +kernel
theorem dX10_factor_176 : decode cX10_factor 176 = .ok (.aload_n 0, 1) := by decide +kernel
theorem dX10_factor_177 : decode cX10_factor 177 = .ok (.bipush 41, 2) := by decide +kernel
theorem dX10_factor_179 : decode cX10_factor 179 = .ok (.invokevirtual 172, 3) := by decide +kernel
theorem dX10_factor_182 : decode cX10_factor 182 = .ok (.aload_n 0, 1) := by decide +kernel
theorem dX10_factor_183 : decode cX10_factor 183 = .ok (.getfield 132, 3) := by decide +kernel
theorem dX10_factor_186 : decode cX10_factor 186 = .ok (.ifCond .ne 15, 3) := by decide +kernel
theorem dX10_factor_189 : decode cX10_factor 189 = .ok (.aload_n 0, 1) := by decide +kernel
theorem dX10_factor_190 : decode cX10_factor 190 = .ok (.iconst 2, 1) := by decide +kernel
theorem dX10_factor_191 : decode cX10_factor 191 = .ok (.iload 4, 2) := by decide +kernel
theorem dX10_factor_193 : decode cX10_factor 193 = .ok (.iload 6, 2) := by decide +kernel
theorem dX10_factor_195 : decode cX10_factor 195 = .ok (.iload_n 3, 1) := by decide +kernel
theorem dX10_factor_196 : decode cX10_factor 196 = .ok (.iload 5, 2) := by decide +kernel
theorem dX10_factor_198 : decode cX10_factor 198 = .ok (.invokevirtual 144, 3) := by decide +kernel
theorem dX10_factor_201 : decode cX10_factor 201 = .ok (.iconst 1, 1) := by decide +kernel
theorem dX10_factor_202 : decode cX10_factor 202 = .ok (.ireturn, 1) := by decide +kernel
theorem dX10_factor_203 : decode cX10_factor 203 = .ok (.aload_n 0, 1) := by decide +kernel
theorem dX10_factor_204 : decode cX10_factor 204 = .ok (.invokevirtual 162, 3) := by decide +kernel
theorem dX10_factor_207 : decode cX10_factor 207 = .ok (.ifCond .eq 26, 3) := by decide +kernel
theorem dX10_factor_210 : decode cX10_factor 210 = .ok (.aload_n 0, 1) := by decide +kernel
theorem dX10_factor_211 : decode cX10_factor 211 = .ok (.invokevirtual 178, 3) := by decide +kernel
theorem dX10_factor_214 : decode cX10_factor 214 = .ok (.istore_n 3, 1) := by decide +kernel
theorem dX10_factor_215 : decode cX10_factor 215 = .ok (.aload_n 0, 1) := by decide +kernel
theorem dX10_factor_216 : decode cX10_factor 216 = .ok (.getfield 132, 3) := by decide +kernel
theorem dX10_factor_219 : decode cX10_factor 219 = .ok (.ifCond .ne 12, 3) := by decide +kernel
theorem dX10_factor_222 : decode cX10_factor 222 = .ok (.aload_n 0, 1) := by decide +kernel
theorem dX10_factor_223 : decode cX10_factor 223 = .ok (.iconst 0, 1) := by decide +kernel
theorem dX10_factor_224 : decode cX10_factor 224 = .ok (.iload_n 3, 1) := by decide +kernel
theorem dX10_factor_225 : decode cX10_factor 225 = .ok (.iconst 0, 1) := by decide +kernel
theorem dX10_factor_226 : decode cX10_factor 226 = .ok (.iload_n 2, 1) := by decide +kernel
theorem dX10_factor_227 : decode cX10_factor 227 = .ok (.iconst (-1), 1) := by decide +kernel
theorem dX10_factor_228 : decode cX10_factor 228 = .ok (.invokevirtual 144, 3) := by decide +kernel
theorem dX10_factor_231 : decode cX10_factor 231 = .ok (.iconst 1, 1) := by decide +kernel
theorem dX10_factor_232 : decode cX10_factor 232 = .ok (.ireturn, 1) := by decide +kernel
theorem dX10_factor_233 : decode cX10_factor 233 = .ok (.aload_n 0, 1) := by decide +kernel
theorem dX10_factor_234 : decode cX10_factor 234 = .ok (.invokevirtual 175, 3) := by decide +kernel
theorem dX10_factor_237 : decode cX10_factor 237 = .ok (.istore_n 3, 1) := by decide +kernel
theorem dX10_factor_238 : decode cX10_factor 238 = .ok (.aload_n 0, 1) := by decide +kernel
theorem dX10_factor_239 : decode cX10_factor 239 = .ok (.getfield 132, 3) := by decide +kernel
theorem dX10_factor_242 : decode cX10_factor 242 = .ok (.ifCond .ne 12, 3) := by decide +kernel
theorem dX10_factor_245 : decode cX10_factor 245 = .ok (.aload_n 0, 1) := by decide +kernel
theorem dX10_factor_246 : decode cX10_factor 246 = .ok (.iconst 1, 1) := by decide +kernel
theorem dX10_factor_247 : decode cX10_factor 247 = .ok (.iload_n 3, 1) := by decide +kernel
theorem dX10_factor_248 : decode cX10_factor 248 = .ok (.iconst 0, 1) := by decide +kernel
theorem dX10_factor_249 : decode cX10_factor 249 = .ok (.iload_n 2, 1) := by decide +kernel
theorem dX10_factor_250 : decode cX10_factor 250 = .ok (.iconst (-1), 1) := by decide +kernel
theorem dX10_factor_251 : decode cX10_factor 251 = .ok (.invokevirtual 144, 3) := by decide +kernel
theorem dX10_factor_254 : decode cX10_factor 254 = .ok (.iconst 1, 1) := by decide +kernel
theorem dX10_factor_255 : decode cX10_factor 255 = .ok (.ireturn, 1) := by decide +kernel
theorem dX10_joinOf_0 : decode cX10_joinOf 0 = .ok (.iload_n 0, 1) := by decide +kernel
theorem dX10_joinOf_1 : decode cX10_joinOf 1 = .ok (.bipush 43, 2) := by decide +kernel
theorem dX10_joinOf_3 : decode cX10_joinOf 3 = .ok (.if_icmp .ne 7, 3) := by decide +kernel
theorem dX10_joinOf_6 : decode cX10_joinOf 6 = .ok (.iconst 4, 1) := by decide +kernel
theorem dX10_joinOf_7 : decode cX10_joinOf 7 = .ok (.goto 36, 3) := by decide +kernel
theorem dX10_joinOf_10 : decode cX10_joinOf 10 = .ok (.iload_n 0, 1) := by decide +kernel
theorem dX10_joinOf_11 : decode cX10_joinOf 11 = .ok (.bipush 45, 2) := by decide +kernel
theorem dX10_joinOf_13 : decode cX10_joinOf 13 = .ok (.if_icmp .ne 7, 3) := by decide +kernel
theorem dX10_joinOf_16 : decode cX10_joinOf 16 = .ok (.iconst 5, 1) := by decide +kernel
theorem dX10_joinOf_17 : decode cX10_joinOf 17 = .ok (.goto 26, 3) := by decide +kernel
theorem dX10_joinOf_20 : decode cX10_joinOf 20 = .ok (.iload_n 0, 1) := by decide +kernel
theorem dX10_joinOf_21 : decode cX10_joinOf 21 = .ok (.bipush 42, 2) := by decide +kernel
theorem dX10_joinOf_23 : decode cX10_joinOf 23 = .ok (.if_icmp .ne 8, 3) := by decide +kernel
theorem dX10_joinOf_26 : decode cX10_joinOf 26 = .ok (.bipush 6, 2) := by decide +kernel
theorem dX10_joinOf_28 : decode cX10_joinOf 28 = .ok (.goto 15, 3) := by decide +kernel
theorem dX10_joinOf_31 : decode cX10_joinOf 31 = .ok (.iload_n 0, 1) := by decide +kernel
theorem dX10_joinOf_32 : decode cX10_joinOf 32 = .ok (.bipush 47, 2) := by decide +kernel
theorem dX10_joinOf_34 : decode cX10_joinOf 34 = .ok (.if_icmp .ne 8, 3) := by decide +kernel
theorem dX10_joinOf_37 : decode cX10_joinOf 37 = .ok (.bipush 7, 2) := by decide +kernel
theorem dX10_joinOf_39 : decode cX10_joinOf 39 = .ok (.goto 4, 3) := by decide +kernel
theorem dX10_joinOf_42 : decode cX10_joinOf 42 = .ok (.iconst (-1), 1) := by decide +kernel
theorem dX10_joinOf_43 : decode cX10_joinOf 43 = .ok (.ireturn, 1) := by decide +kernel
theorem dX10_reads_0 : decode cX10_reads 0 = .ok (.aload_n 0, 1) := by decide +kernel
theorem dX10_reads_1 : decode cX10_reads 1 = .ok (.iload_n 1, 1) := by decide +kernel
theorem dX10_reads_2 : decode cX10_reads 2 = .ok (.putfield 129, 3) := by decide +kernel
theorem dX10_reads_5 : decode cX10_reads 5 = .ok (.aload_n 0, 1) := by decide +kernel
theorem dX10_reads_6 : decode cX10_reads 6 = .ok (.iconst 0, 1) := by decide +kernel
theorem dX10_reads_7 : decode cX10_reads 7 = .ok (.putfield 126, 3) := by decide +kernel
theorem dX10_reads_10 : decode cX10_reads 10 = .ok (.aload_n 0, 1) := by decide +kernel
theorem dX10_reads_11 : decode cX10_reads 11 = .ok (.iconst 0, 1) := by decide +kernel
theorem dX10_reads_12 : decode cX10_reads 12 = .ok (.putfield 132, 3) := by decide +kernel
theorem dX10_reads_15 : decode cX10_reads 15 = .ok (.aload_n 0, 1) := by decide +kernel
theorem dX10_reads_16 : decode cX10_reads 16 = .ok (.iconst 0, 1) := by decide +kernel
theorem dX10_reads_17 : decode cX10_reads 17 = .ok (.putfield 138, 3) := by decide +kernel
theorem dX10_reads_20 : decode cX10_reads 20 = .ok (.aload_n 0, 1) := by decide +kernel
theorem dX10_reads_21 : decode cX10_reads 21 = .ok (.iconst 0, 1) := by decide +kernel
theorem dX10_reads_22 : decode cX10_reads 22 = .ok (.putfield 141, 3) := by decide +kernel
theorem dX10_reads_25 : decode cX10_reads 25 = .ok (.aload_n 0, 1) := by decide +kernel
theorem dX10_reads_26 : decode cX10_reads 26 = .ok (.iconst 0, 1) := by decide +kernel
theorem dX10_reads_27 : decode cX10_reads 27 = .ok (.putfield 148, 3) := by decide +kernel
theorem dX10_reads_30 : decode cX10_reads 30 = .ok (.aload_n 0, 1) := by decide +kernel
theorem dX10_reads_31 : decode cX10_reads 31 = .ok (.bipush 61, 2) := by decide +kernel
theorem dX10_reads_33 : decode cX10_reads 33 = .ok (.invokevirtual 172, 3) := by decide +kernel
theorem dX10_reads_36 : decode cX10_reads 36 = .ok (.iconst 1, 1) := by decide +kernel
theorem dX10_reads_37 : decode cX10_reads 37 = .ok (.istore_n 2, 1) := by decide +kernel
theorem dX10_reads_38 : decode cX10_reads 38 = .ok (.iconst 1, 1) := by decide +kernel
theorem dX10_reads_39 : decode cX10_reads 39 = .ok (.istore_n 3, 1) := by decide +kernel
theorem dX10_reads_40 : decode cX10_reads 40 = .ok (.iload_n 3, 1) := by decide +kernel
theorem dX10_reads_41 : decode cX10_reads 41 = .ok (.ifCond .eq 341, 3) := by decide +kernel
theorem dX10_reads_44 : decode cX10_reads 44 = .ok (.aload_n 0, 1) := by decide +kernel
theorem dX10_reads_45 : decode cX10_reads 45 = .ok (.getfield 132, 3) := by decide +kernel
theorem dX10_reads_48 : decode cX10_reads 48 = .ok (.ifCond .ne 334, 3) := by decide +kernel
theorem dX10_reads_51 : decode cX10_reads 51 = .ok (.iload_n 2, 1) := by decide +kernel
theorem dX10_reads_52 : decode cX10_reads 52 = .ok (.ifCond .eq 34, 3) := by decide +kernel
theorem dX10_reads_55 : decode cX10_reads 55 = .ok (.aload_n 0, 1) := by decide +kernel
theorem dX10_reads_56 : decode cX10_reads 56 = .ok (.invokevirtual 181, 3) := by decide +kernel
theorem dX10_reads_59 : decode cX10_reads 59 = .ok (.ifCond .ne 7, 3) := by decide +kernel
theorem dX10_reads_62 : decode cX10_reads 62 = .ok (.iconst 1, 1) := by decide +kernel
theorem dX10_reads_63 : decode cX10_reads 63 = .ok (.goto 4, 3) := by decide +kernel
theorem dX10_reads_66 : decode cX10_reads 66 = .ok (.iconst 0, 1) := by decide +kernel
theorem dX10_reads_67 : decode cX10_reads 67 = .ok (.istore_n 2, 1) := by decide +kernel
theorem dX10_reads_68 : decode cX10_reads 68 = .ok (.iload_n 2, 1) := by decide +kernel
theorem dX10_reads_69 : decode cX10_reads 69 = .ok (.ifCond .ne (-29), 3) := by decide +kernel
theorem dX10_reads_72 : decode cX10_reads 72 = .ok (.aload_n 0, 1) := by decide +kernel
theorem dX10_reads_73 : decode cX10_reads 73 = .ok (.getfield 132, 3) := by decide +kernel
theorem dX10_reads_76 : decode cX10_reads 76 = .ok (.ifCond .ne (-36), 3) := by decide +kernel
theorem dX10_reads_79 : decode cX10_reads 79 = .ok (.aload_n 0, 1) := by decide +kernel
theorem dX10_reads_80 : decode cX10_reads 80 = .ok (.invokevirtual 184, 3) := by decide +kernel
theorem dX10_reads_83 : decode cX10_reads 83 = .ok (.goto (-43), 3) := by decide +kernel
theorem dX10_reads_86 : decode cX10_reads 86 = .ok (.aload_n 0, 1) := by decide +kernel
theorem dX10_reads_87 : decode cX10_reads 87 = .ok (.invokevirtual 158, 3) := by decide +kernel
theorem dX10_reads_90 : decode cX10_reads 90 = .ok (.invokestatic 187, 3) := by decide +kernel
theorem dX10_reads_93 : decode cX10_reads 93 = .ok (.istore 4, 2) := by decide +kernel
theorem dX10_reads_95 : decode cX10_reads 95 = .ok (.iload 4, 2) := by decide +kernel
theorem dX10_reads_97 : decode cX10_reads 97 = .ok (.bipush 6, 2) := by decide +kernel
theorem dX10_reads_99 : decode cX10_reads 99 = .ok (.if_icmp .eq 10, 3) := by decide +kernel
theorem dX10_reads_102 : decode cX10_reads 102 = .ok (.iload 4, 2) := by decide +kernel
theorem dX10_reads_104 : decode cX10_reads 104 = .ok (.bipush 7, 2) := by decide +kernel
theorem dX10_reads_106 : decode cX10_reads 106 = .ok (.if_icmp .ne 28, 3) := by decide +kernel
theorem dX10_reads_109 : decode cX10_reads 109 = .ok (.aload_n 0, 1) := by decide +kernel
theorem dX10_reads_110 : decode cX10_reads 110 = .ok (.iload 4, 2) := by decide +kernel
theorem dX10_reads_112 : decode cX10_reads 112 = .ok (.aload_n 0, 1) := by decide +kernel
theorem dX10_reads_113 : decode cX10_reads 113 = .ok (.getfield 126, 3) := by decide +kernel
theorem dX10_reads_116 : decode cX10_reads 116 = .ok (.invokevirtual 155, 3) := by decide +kernel
theorem dX10_reads_119 : decode cX10_reads 119 = .ok (.aload_n 0, 1) := by decide +kernel
theorem dX10_reads_120 : decode cX10_reads 120 = .ok (.dup, 1) := by decide +kernel
theorem dX10_reads_121 : decode cX10_reads 121 = .ok (.getfield 126, 3) := by decide +kernel
theorem dX10_reads_124 : decode cX10_reads 124 = .ok (.iconst 1, 1) := by decide +kernel
theorem dX10_reads_125 : decode cX10_reads 125 = .ok (.iadd, 1) := by decide +kernel
theorem dX10_reads_126 : decode cX10_reads 126 = .ok (.putfield 126, 3) := by decide +kernel
theorem dX10_reads_129 : decode cX10_reads 129 = .ok (.iconst 1, 1) := by decide +kernel
theorem dX10_reads_130 : decode cX10_reads 130 = .ok (.istore_n 2, 1) := by decide +kernel
theorem dX10_reads_131 : decode cX10_reads 131 = .ok (.goto (-91), 3) := by decide +kernel
theorem dX10_reads_134 : decode cX10_reads 134 = .ok (.aload_n 0, 1) := by decide +kernel
theorem dX10_reads_135 : decode cX10_reads 135 = .ok (.invokevirtual 191, 3) := by decide +kernel
theorem dX10_reads_138 : decode cX10_reads 138 = .ok (.iload 4, 2) := by decide +kernel
theorem dX10_reads_140 : decode cX10_reads 140 = .ok (.iconst (-1), 1) := by decide +kernel
theorem dX10_reads_141 : decode cX10_reads 141 = .ok (.if_icmp .eq 28, 3) := by decide +kernel
theorem dX10_reads_144 : decode cX10_reads 144 = .ok (.aload_n 0, 1) := by decide +kernel
theorem dX10_reads_145 : decode cX10_reads 145 = .ok (.iload 4, 2) := by decide +kernel
theorem dX10_reads_147 : decode cX10_reads 147 = .ok (.aload_n 0, 1) := by decide +kernel
theorem dX10_reads_148 : decode cX10_reads 148 = .ok (.getfield 126, 3) := by decide +kernel
theorem dX10_reads_151 : decode cX10_reads 151 = .ok (.invokevirtual 155, 3) := by decide +kernel
theorem dX10_reads_154 : decode cX10_reads 154 = .ok (.aload_n 0, 1) := by decide +kernel
theorem dX10_reads_155 : decode cX10_reads 155 = .ok (.dup, 1) := by decide +kernel
theorem dX10_reads_156 : decode cX10_reads 156 = .ok (.getfield 126, 3) := by decide +kernel
theorem dX10_reads_159 : decode cX10_reads 159 = .ok (.iconst 1, 1) := by decide +kernel
theorem dX10_reads_160 : decode cX10_reads 160 = .ok (.iadd, 1) := by decide +kernel
theorem dX10_reads_161 : decode cX10_reads 161 = .ok (.putfield 126, 3) := by decide +kernel
theorem dX10_reads_164 : decode cX10_reads 164 = .ok (.iconst 1, 1) := by decide +kernel
theorem dX10_reads_165 : decode cX10_reads 165 = .ok (.istore_n 2, 1) := by decide +kernel
theorem dX10_reads_166 : decode cX10_reads 166 = .ok (.goto 213, 3) := by decide +kernel
theorem dX10_reads_169 : decode cX10_reads 169 = .ok (.aload_n 0, 1) := by decide +kernel
theorem dX10_reads_170 : decode cX10_reads 170 = .ok (.getfield 126, 3) := by decide +kernel
theorem dX10_reads_173 : decode cX10_reads 173 = .ok (.aload_n 0, 1) := by decide +kernel
theorem dX10_reads_174 : decode cX10_reads 174 = .ok (.getfield 129, 3) := by decide +kernel
theorem dX10_reads_177 : decode cX10_reads 177 = .ok (.if_icmp .ne 24, 3) := by decide +kernel
theorem dX10_reads_180 : decode cX10_reads 180 = .ok (.aload_n 0, 1) := by decide +kernel
theorem dX10_reads_181 : decode cX10_reads 181 = .ok (.getfield 141, 3) := by decide +kernel
theorem dX10_reads_184 : decode cX10_reads 184 = .ok (.ifCond .le 12, 3) := by decide +kernel
theorem dX10_reads_187 : decode cX10_reads 187 = .ok (.aload_n 0, 1) := by decide +kernel
theorem dX10_reads_188 : decode cX10_reads 188 = .ok (.iconst 1, 1) := by decide +kernel
theorem dX10_reads_189 : decode cX10_reads 189 = .ok (.aload_n 0, 1) := by decide +kernel
theorem dX10_reads_190 : decode cX10_reads 190 = .ok (.getfield 126, 3) := by decide +kernel
theorem dX10_reads_193 : decode cX10_reads 193 = .ok (.invokevirtual 151, 3) := by decide +kernel
theorem dX10_reads_196 : decode cX10_reads 196 = .ok (.iconst 0, 1) := by decide +kernel
theorem dX10_reads_197 : decode cX10_reads 197 = .ok (.istore_n 3, 1) := by decide +kernel
theorem dX10_reads_198 : decode cX10_reads 198 = .ok (.goto 181, 3) := by decide +kernel
theorem dX10_reads_201 : decode cX10_reads 201 = .ok (.aload_n 0, 1) := by decide +kernel
theorem dX10_reads_202 : decode cX10_reads 202 = .ok (.invokevirtual 158, 3) := by decide +kernel
theorem dX10_reads_205 : decode cX10_reads 205 = .ok (.bipush 44, 2) := by decide +kernel
theorem dX10_reads_207 : decode cX10_reads 207 = .ok (.if_icmp .ne 54, 3) := by decide +kernel
theorem dX10_reads_210 : decode cX10_reads 210 = .ok (.aload_n 0, 1) := by decide +kernel
theorem dX10_reads_211 : decode cX10_reads 211 = .ok (.getfield 141, 3) := by decide +kernel
theorem dX10_reads_214 : decode cX10_reads 214 = .ok (.ifCond .le 47, 3) := by decide +kernel
theorem dX10_reads_217 : decode cX10_reads 217 = .ok (.aload_n 0, 1) := by decide +kernel
theorem dX10_reads_218 : decode cX10_reads 218 = .ok (.getfield 79, 3) := by decide +kernel
theorem dX10_reads_221 : decode cX10_reads 221 = .ok (.aload_n 0, 1) := by decide +kernel
theorem dX10_reads_222 : decode cX10_reads 222 = .ok (.getfield 141, 3) := by decide +kernel
theorem dX10_reads_225 : decode cX10_reads 225 = .ok (.iconst 1, 1) := by decide +kernel
theorem dX10_reads_226 : decode cX10_reads 226 = .ok (.isub, 1) := by decide +kernel
theorem dX10_reads_227 : decode cX10_reads 227 = .ok (.iaload, 1) := by decide +kernel
theorem dX10_reads_228 : decode cX10_reads 228 = .ok (.bipush 10, 2) := by decide +kernel
theorem dX10_reads_230 : decode cX10_reads 230 = .ok (.if_icmp .ne 31, 3) := by decide +kernel
theorem dX10_reads_233 : decode cX10_reads 233 = .ok (.aload_n 0, 1) := by decide +kernel
theorem dX10_reads_234 : decode cX10_reads 234 = .ok (.getfield 79, 3) := by decide +kernel
theorem dX10_reads_237 : decode cX10_reads 237 = .ok (.aload_n 0, 1) := by decide +kernel
theorem dX10_reads_238 : decode cX10_reads 238 = .ok (.getfield 141, 3) := by decide +kernel
theorem dX10_reads_241 : decode cX10_reads 241 = .ok (.iconst 1, 1) := by decide +kernel
theorem dX10_reads_242 : decode cX10_reads 242 = .ok (.isub, 1) := by decide +kernel
theorem dX10_reads_243 : decode cX10_reads 243 = .ok (.bipush 11, 2) := by decide +kernel
theorem dX10_reads_245 : decode cX10_reads 245 = .ok (.iastore, 1) := by decide +kernel
theorem dX10_reads_246 : decode cX10_reads 246 = .ok (.aload_n 0, 1) := by decide +kernel
theorem dX10_reads_247 : decode cX10_reads 247 = .ok (.dup, 1) := by decide +kernel
theorem dX10_reads_248 : decode cX10_reads 248 = .ok (.getfield 126, 3) := by decide +kernel
theorem dX10_reads_251 : decode cX10_reads 251 = .ok (.iconst 1, 1) := by decide +kernel
theorem dX10_reads_252 : decode cX10_reads 252 = .ok (.iadd, 1) := by decide +kernel
theorem dX10_reads_253 : decode cX10_reads 253 = .ok (.putfield 126, 3) := by decide +kernel
theorem dX10_reads_256 : decode cX10_reads 256 = .ok (.iconst 1, 1) := by decide +kernel
theorem dX10_reads_257 : decode cX10_reads 257 = .ok (.istore_n 2, 1) := by decide +kernel
theorem dX10_reads_258 : decode cX10_reads 258 = .ok (.goto 121, 3) := by decide +kernel
theorem dX10_reads_261 : decode cX10_reads 261 = .ok (.aload_n 0, 1) := by decide +kernel
theorem dX10_reads_262 : decode cX10_reads 262 = .ok (.invokevirtual 158, 3) := by decide +kernel
theorem dX10_reads_265 : decode cX10_reads 265 = .ok (.bipush 41, 2) := by decide +kernel
theorem dX10_reads_267 : decode cX10_reads 267 = .ok (.if_icmp .ne 103, 3) := by decide +kernel
theorem dX10_reads_270 : decode cX10_reads 270 = .ok (.aload_n 0, 1) := by decide +kernel
theorem dX10_reads_271 : decode cX10_reads 271 = .ok (.getfield 141, 3) := by decide +kernel
theorem dX10_reads_274 : decode cX10_reads 274 = .ok (.ifCond .le 96, 3) := by decide +kernel
theorem dX10_reads_277 : decode cX10_reads 277 = .ok (.aload_n 0, 1) := by decide +kernel
theorem dX10_reads_278 : decode cX10_reads 278 = .ok (.getfield 79, 3) := by decide +kernel
theorem dX10_reads_281 : decode cX10_reads 281 = .ok (.aload_n 0, 1) := by decide +kernel
theorem dX10_reads_282 : decode cX10_reads 282 = .ok (.getfield 141, 3) := by decide +kernel
theorem dX10_reads_285 : decode cX10_reads 285 = .ok (.iconst 1, 1) := by decide +kernel
theorem dX10_reads_286 : decode cX10_reads 286 = .ok (.isub, 1) := by decide +kernel
theorem dX10_reads_287 : decode cX10_reads 287 = .ok (.iaload, 1) := by decide +kernel
theorem dX10_reads_288 : decode cX10_reads 288 = .ok (.bipush 9, 2) := by decide +kernel
theorem dX10_reads_290 : decode cX10_reads 290 = .ok (.if_icmp .eq 19, 3) := by decide +kernel
theorem dX10_reads_293 : decode cX10_reads 293 = .ok (.aload_n 0, 1) := by decide +kernel
theorem dX10_reads_294 : decode cX10_reads 294 = .ok (.getfield 79, 3) := by decide +kernel
theorem dX10_reads_297 : decode cX10_reads 297 = .ok (.aload_n 0, 1) := by decide +kernel
theorem dX10_reads_298 : decode cX10_reads 298 = .ok (.getfield 141, 3) := by decide +kernel
theorem dX10_reads_301 : decode cX10_reads 301 = .ok (.iconst 1, 1) := by decide +kernel
theorem dX10_reads_302 : decode cX10_reads 302 = .ok (.isub, 1) := by decide +kernel
theorem dX10_reads_303 : decode cX10_reads 303 = .ok (.iaload, 1) := by decide +kernel
theorem dX10_reads_304 : decode cX10_reads 304 = .ok (.bipush 11, 2) := by decide +kernel
theorem dX10_reads_306 : decode cX10_reads 306 = .ok (.if_icmp .ne 64, 3) := by decide +kernel
theorem dX10_reads_309 : decode cX10_reads 309 = .ok (.aload_n 0, 1) := by decide +kernel
theorem dX10_reads_310 : decode cX10_reads 310 = .ok (.dup, 1) := by decide +kernel
theorem dX10_reads_311 : decode cX10_reads 311 = .ok (.getfield 141, 3) := by decide +kernel
theorem dX10_reads_314 : decode cX10_reads 314 = .ok (.iconst 1, 1) := by decide +kernel
theorem dX10_reads_315 : decode cX10_reads 315 = .ok (.isub, 1) := by decide +kernel
theorem dX10_reads_316 : decode cX10_reads 316 = .ok (.putfield 141, 3) := by decide +kernel
theorem dX10_reads_319 : decode cX10_reads 319 = .ok (.aload_n 0, 1) := by decide +kernel
theorem dX10_reads_320 : decode cX10_reads 320 = .ok (.dup, 1) := by decide +kernel
theorem dX10_reads_321 : decode cX10_reads 321 = .ok (.getfield 148, 3) := by decide +kernel
theorem dX10_reads_324 : decode cX10_reads 324 = .ok (.iconst 1, 1) := by decide +kernel
theorem dX10_reads_325 : decode cX10_reads 325 = .ok (.isub, 1) := by decide +kernel
theorem dX10_reads_326 : decode cX10_reads 326 = .ok (.putfield 148, 3) := by decide +kernel
theorem dX10_reads_329 : decode cX10_reads 329 = .ok (.aload_n 0, 1) := by decide +kernel
theorem dX10_reads_330 : decode cX10_reads 330 = .ok (.getfield 79, 3) := by decide +kernel
theorem dX10_reads_333 : decode cX10_reads 333 = .ok (.aload_n 0, 1) := by decide +kernel
theorem dX10_reads_334 : decode cX10_reads 334 = .ok (.getfield 141, 3) := by decide +kernel
theorem dX10_reads_337 : decode cX10_reads 337 = .ok (.iaload, 1) := by decide +kernel
theorem dX10_reads_338 : decode cX10_reads 338 = .ok (.bipush 11, 2) := by decide +kernel
theorem dX10_reads_340 : decode cX10_reads 340 = .ok (.if_icmp .ne 13, 3) := by decide +kernel
theorem dX10_reads_343 : decode cX10_reads 343 = .ok (.aload_n 0, 1) := by decide +kernel
theorem dX10_reads_344 : decode cX10_reads 344 = .ok (.bipush 8, 2) := by decide +kernel
theorem dX10_reads_346 : decode cX10_reads 346 = .ok (.iconst 0, 1) := by decide +kernel
theorem dX10_reads_347 : decode cX10_reads 347 = .ok (.iconst 0, 1) := by decide +kernel
theorem dX10_reads_348 : decode cX10_reads 348 = .ok (.iconst (-1), 1) := by decide +kernel
theorem dX10_reads_349 : decode cX10_reads 349 = .ok (.iconst (-1), 1) := by decide +kernel
theorem dX10_reads_350 : decode cX10_reads 350 = .ok (.invokevirtual 144, 3) := by decide +kernel
theorem dX10_reads_353 : decode cX10_reads 353 = .ok (.aload_n 0, 1) := by decide +kernel
theorem dX10_reads_354 : decode cX10_reads 354 = .ok (.dup, 1) := by decide +kernel
theorem dX10_reads_355 : decode cX10_reads 355 = .ok (.getfield 126, 3) := by decide +kernel
theorem dX10_reads_358 : decode cX10_reads 358 = .ok (.iconst 1, 1) := by decide +kernel
theorem dX10_reads_359 : decode cX10_reads 359 = .ok (.iadd, 1) := by decide +kernel
theorem dX10_reads_360 : decode cX10_reads 360 = .ok (.putfield 126, 3) := by decide +kernel
theorem dX10_reads_363 : decode cX10_reads 363 = .ok (.aload_n 0, 1) := by decide +kernel
theorem dX10_reads_364 : decode cX10_reads 364 = .ok (.invokevirtual 184, 3) := by decide +kernel
theorem dX10_reads_367 : decode cX10_reads 367 = .ok (.goto 12, 3) := by decide +kernel
theorem dX10_reads_370 : decode cX10_reads 370 = .ok (.aload_n 0, 1) := by decide +kernel
theorem dX10_reads_371 : decode cX10_reads 371 = .ok (.iconst 1, 1) := by decide +kernel
theorem dX10_reads_372 : decode cX10_reads 372 = .ok (.aload_n 0, 1) := by decide +kernel
theorem dX10_reads_373 : decode cX10_reads 373 = .ok (.getfield 126, 3) := by decide +kernel
theorem dX10_reads_376 : decode cX10_reads 376 = .ok (.invokevirtual 151, 3) := by decide +kernel
theorem dX10_reads_379 : decode cX10_reads 379 = .ok (.goto (-339), 3) := by decide +kernel
theorem dX10_reads_382 : decode cX10_reads 382 = .ok (.return_, 1) := by decide +kernel
theorem dX10_formula_0 : decode cX10_formula 0 = .ok (.iload_n 1, 1) := by decide +kernel
theorem dX10_formula_1 : decode cX10_formula 1 = .ok (.invokestatic 115, 3) := by decide +kernel
theorem dX10_formula_4 : decode cX10_formula 4 = .ok (.ifCond .eq 28, 3) := by decide +kernel
theorem dX10_formula_7 : decode cX10_formula 7 = .ok (.iload_n 2, 1) := by decide +kernel
theorem dX10_formula_8 : decode cX10_formula 8 = .ok (.invokestatic 119, 3) := by decide +kernel
theorem dX10_formula_11 : decode cX10_formula 11 = .ok (.ifCond .eq 21, 3) := by decide +kernel
theorem dX10_formula_14 : decode cX10_formula 14 = .ok (.iload_n 3, 1) := by decide +kernel
theorem dX10_formula_15 : decode cX10_formula 15 = .ok (.iconst 0, 1) := by decide +kernel
theorem dX10_formula_16 : decode cX10_formula 16 = .ok (.bipush 40, 2) := by decide +kernel
theorem dX10_formula_18 : decode cX10_formula 18 = .ok (.invokestatic 104, 3) := by decide +kernel
theorem dX10_formula_21 : decode cX10_formula 21 = .ok (.ifCond .eq 11, 3) := by decide +kernel
theorem dX10_formula_24 : decode cX10_formula 24 = .ok (.iload_n 3, 1) := by decide +kernel
theorem dX10_formula_25 : decode cX10_formula 25 = .ok (.aload_n 0, 1) := by decide +kernel
theorem dX10_formula_26 : decode cX10_formula 26 = .ok (.getfield 108, 3) := by decide +kernel
theorem dX10_formula_29 : decode cX10_formula 29 = .ok (.if_icmp .le 5, 3) := by decide +kernel
theorem dX10_formula_32 : decode cX10_formula 32 = .ok (.iconst (-1), 1) := by decide +kernel
theorem dX10_formula_33 : decode cX10_formula 33 = .ok (.ireturn, 1) := by decide +kernel
theorem dX10_formula_34 : decode cX10_formula 34 = .ok (.aload_n 0, 1) := by decide +kernel
theorem dX10_formula_35 : decode cX10_formula 35 = .ok (.iconst 0, 1) := by decide +kernel
theorem dX10_formula_36 : decode cX10_formula 36 = .ok (.putfield 108, 3) := by decide +kernel
theorem dX10_formula_39 : decode cX10_formula 39 = .ok (.aload_n 0, 1) := by decide +kernel
theorem dX10_formula_40 : decode cX10_formula 40 = .ok (.iload_n 3, 1) := by decide +kernel
theorem dX10_formula_41 : decode cX10_formula 41 = .ok (.invokevirtual 194, 3) := by decide +kernel
theorem dX10_formula_44 : decode cX10_formula 44 = .ok (.aload_n 0, 1) := by decide +kernel
theorem dX10_formula_45 : decode cX10_formula 45 = .ok (.getfield 132, 3) := by decide +kernel
theorem dX10_formula_48 : decode cX10_formula 48 = .ok (.ifCond .le 16, 3) := by decide +kernel
theorem dX10_formula_51 : decode cX10_formula 51 = .ok (.bipush 100, 2) := by decide +kernel
theorem dX10_formula_53 : decode cX10_formula 53 = .ok (.aload_n 0, 1) := by decide +kernel
theorem dX10_formula_54 : decode cX10_formula 54 = .ok (.getfield 132, 3) := by decide +kernel
theorem dX10_formula_57 : decode cX10_formula 57 = .ok (.imul, 1) := by decide +kernel
theorem dX10_formula_58 : decode cX10_formula 58 = .ok (.aload_n 0, 1) := by decide +kernel
theorem dX10_formula_59 : decode cX10_formula 59 = .ok (.getfield 135, 3) := by decide +kernel
theorem dX10_formula_62 : decode cX10_formula 62 = .ok (.iadd, 1) := by decide +kernel
theorem dX10_formula_63 : decode cX10_formula 63 = .ok (.ireturn, 1) := by decide +kernel
theorem dX10_formula_64 : decode cX10_formula 64 = .ok (.bipush 64, 2) := by decide +kernel
theorem dX10_formula_66 : decode cX10_formula 66 = .ok (.iload_n 1, 1) := by decide +kernel
theorem dX10_formula_67 : decode cX10_formula 67 = .ok (.imul, 1) := by decide +kernel
theorem dX10_formula_68 : decode cX10_formula 68 = .ok (.iload_n 2, 1) := by decide +kernel
theorem dX10_formula_69 : decode cX10_formula 69 = .ok (.iadd, 1) := by decide +kernel
theorem dX10_formula_70 : decode cX10_formula 70 = .ok (.istore 4, 2) := by decide +kernel
theorem dX10_formula_72 : decode cX10_formula 72 = .ok (.aload_n 0, 1) := by decide +kernel
theorem dX10_formula_73 : decode cX10_formula 73 = .ok (.getfield 13, 3) := by decide +kernel
theorem dX10_formula_76 : decode cX10_formula 76 = .ok (.iload 4, 2) := by decide +kernel
theorem dX10_formula_78 : decode cX10_formula 78 = .ok (.iconst 2, 1) := by decide +kernel
theorem dX10_formula_79 : decode cX10_formula 79 = .ok (.iastore, 1) := by decide +kernel
theorem dX10_formula_80 : decode cX10_formula 80 = .ok (.aload_n 0, 1) := by decide +kernel
theorem dX10_formula_81 : decode cX10_formula 81 = .ok (.getfield 20, 3) := by decide +kernel
theorem dX10_formula_84 : decode cX10_formula 84 = .ok (.iload 4, 2) := by decide +kernel
theorem dX10_formula_86 : decode cX10_formula 86 = .ok (.iload_n 3, 1) := by decide +kernel
theorem dX10_formula_87 : decode cX10_formula 87 = .ok (.iastore, 1) := by decide +kernel
theorem dX10_formula_88 : decode cX10_formula 88 = .ok (.iconst 0, 1) := by decide +kernel
theorem dX10_formula_89 : decode cX10_formula 89 = .ok (.istore 5, 2) := by decide +kernel
theorem dX10_formula_91 : decode cX10_formula 91 = .ok (.iload 5, 2) := by decide +kernel
theorem dX10_formula_93 : decode cX10_formula 93 = .ok (.iload_n 3, 1) := by decide +kernel
theorem dX10_formula_94 : decode cX10_formula 94 = .ok (.if_icmp .ge 29, 3) := by decide +kernel
theorem dX10_formula_97 : decode cX10_formula 97 = .ok (.aload_n 0, 1) := by decide +kernel
theorem dX10_formula_98 : decode cX10_formula 98 = .ok (.getfield 23, 3) := by decide +kernel
theorem dX10_formula_101 : decode cX10_formula 101 = .ok (.bipush 40, 2) := by decide +kernel
theorem dX10_formula_103 : decode cX10_formula 103 = .ok (.iload 4, 2) := by decide +kernel
theorem dX10_formula_105 : decode cX10_formula 105 = .ok (.imul, 1) := by decide +kernel
theorem dX10_formula_106 : decode cX10_formula 106 = .ok (.iload 5, 2) := by decide +kernel
theorem dX10_formula_108 : decode cX10_formula 108 = .ok (.iadd, 1) := by decide +kernel
theorem dX10_formula_109 : decode cX10_formula 109 = .ok (.aload_n 0, 1) := by decide +kernel
theorem dX10_formula_110 : decode cX10_formula 110 = .ok (.getfield 7, 3) := by decide +kernel
theorem dX10_formula_113 : decode cX10_formula 113 = .ok (.iload 5, 2) := by decide +kernel
theorem dX10_formula_115 : decode cX10_formula 115 = .ok (.baload, 1) := by decide +kernel
theorem dX10_formula_116 : decode cX10_formula 116 = .ok (.bastore, 1) := by decide +kernel
theorem dX10_formula_117 : decode cX10_formula 117 = .ok (.iinc 5 1, 3) := by decide +kernel
theorem dX10_formula_120 : decode cX10_formula 120 = .ok (.goto (-29), 3) := by decide +kernel
theorem dX10_formula_123 : decode cX10_formula 123 = .ok (.aload_n 0, 1) := by decide +kernel
theorem dX10_formula_124 : decode cX10_formula 124 = .ok (.getfield 26, 3) := by decide +kernel
theorem dX10_formula_127 : decode cX10_formula 127 = .ok (.iload 4, 2) := by decide +kernel
theorem dX10_formula_129 : decode cX10_formula 129 = .ok (.aload_n 0, 1) := by decide +kernel
theorem dX10_formula_130 : decode cX10_formula 130 = .ok (.getfield 138, 3) := by decide +kernel
theorem dX10_formula_133 : decode cX10_formula 133 = .ok (.iastore, 1) := by decide +kernel
theorem dX10_formula_134 : decode cX10_formula 134 = .ok (.iconst 0, 1) := by decide +kernel
theorem dX10_formula_135 : decode cX10_formula 135 = .ok (.istore 5, 2) := by decide +kernel
theorem dX10_formula_137 : decode cX10_formula 137 = .ok (.iload 5, 2) := by decide +kernel
theorem dX10_formula_139 : decode cX10_formula 139 = .ok (.aload_n 0, 1) := by decide +kernel
theorem dX10_formula_140 : decode cX10_formula 140 = .ok (.getfield 138, 3) := by decide +kernel
theorem dX10_formula_143 : decode cX10_formula 143 = .ok (.if_icmp .ge 109, 3) := by decide +kernel
theorem dX10_formula_146 : decode cX10_formula 146 = .ok (.aload_n 0, 1) := by decide +kernel
theorem dX10_formula_147 : decode cX10_formula 147 = .ok (.getfield 29, 3) := by decide +kernel
theorem dX10_formula_150 : decode cX10_formula 150 = .ok (.bipush 40, 2) := by decide +kernel
theorem dX10_formula_152 : decode cX10_formula 152 = .ok (.iload 4, 2) := by decide +kernel
theorem dX10_formula_154 : decode cX10_formula 154 = .ok (.imul, 1) := by decide +kernel
theorem dX10_formula_155 : decode cX10_formula 155 = .ok (.iload 5, 2) := by decide +kernel
theorem dX10_formula_157 : decode cX10_formula 157 = .ok (.iadd, 1) := by decide +kernel
theorem dX10_formula_158 : decode cX10_formula 158 = .ok (.aload_n 0, 1) := by decide +kernel
theorem dX10_formula_159 : decode cX10_formula 159 = .ok (.getfield 64, 3) := by decide +kernel
theorem dX10_formula_162 : decode cX10_formula 162 = .ok (.iload 5, 2) := by decide +kernel
theorem dX10_formula_164 : decode cX10_formula 164 = .ok (.iaload, 1) := by decide +kernel
theorem dX10_formula_165 : decode cX10_formula 165 = .ok (.iastore, 1) := by decide +kernel
theorem dX10_formula_166 : decode cX10_formula 166 = .ok (.aload_n 0, 1) := by decide +kernel
theorem dX10_formula_167 : decode cX10_formula 167 = .ok (.getfield 32, 3) := by decide +kernel
theorem dX10_formula_170 : decode cX10_formula 170 = .ok (.bipush 40, 2) := by decide +kernel
theorem dX10_formula_172 : decode cX10_formula 172 = .ok (.iload 4, 2) := by decide +kernel
theorem dX10_formula_174 : decode cX10_formula 174 = .ok (.imul, 1) := by decide +kernel
theorem dX10_formula_175 : decode cX10_formula 175 = .ok (.iload 5, 2) := by decide +kernel
theorem dX10_formula_177 : decode cX10_formula 177 = .ok (.iadd, 1) := by decide +kernel
theorem dX10_formula_178 : decode cX10_formula 178 = .ok (.aload_n 0, 1) := by decide +kernel
theorem dX10_formula_179 : decode cX10_formula 179 = .ok (.getfield 67, 3) := by decide +kernel
theorem dX10_formula_182 : decode cX10_formula 182 = .ok (.iload 5, 2) := by decide +kernel
theorem dX10_formula_184 : decode cX10_formula 184 = .ok (.iaload, 1) := by decide +kernel
theorem dX10_formula_185 : decode cX10_formula 185 = .ok (.iastore, 1) := by decide +kernel
theorem dX10_formula_186 : decode cX10_formula 186 = .ok (.aload_n 0, 1) := by decide +kernel
theorem dX10_formula_187 : decode cX10_formula 187 = .ok (.getfield 35, 3) := by decide +kernel
theorem dX10_formula_190 : decode cX10_formula 190 = .ok (.bipush 40, 2) := by decide +kernel
theorem dX10_formula_192 : decode cX10_formula 192 = .ok (.iload 4, 2) := by decide +kernel
theorem dX10_formula_194 : decode cX10_formula 194 = .ok (.imul, 1) := by decide +kernel
theorem dX10_formula_195 : decode cX10_formula 195 = .ok (.iload 5, 2) := by decide +kernel
theorem dX10_formula_197 : decode cX10_formula 197 = .ok (.iadd, 1) := by decide +kernel
theorem dX10_formula_198 : decode cX10_formula 198 = .ok (.aload_n 0, 1) := by decide +kernel
theorem dX10_formula_199 : decode cX10_formula 199 = .ok (.getfield 70, 3) := by decide +kernel
theorem dX10_formula_202 : decode cX10_formula 202 = .ok (.iload 5, 2) := by decide +kernel
theorem dX10_formula_204 : decode cX10_formula 204 = .ok (.iaload, 1) := by decide +kernel
theorem dX10_formula_205 : decode cX10_formula 205 = .ok (.iastore, 1) := by decide +kernel
theorem dX10_formula_206 : decode cX10_formula 206 = .ok (.aload_n 0, 1) := by decide +kernel
theorem dX10_formula_207 : decode cX10_formula 207 = .ok (.getfield 38, 3) := by decide +kernel
theorem dX10_formula_210 : decode cX10_formula 210 = .ok (.bipush 40, 2) := by decide +kernel
theorem dX10_formula_212 : decode cX10_formula 212 = .ok (.iload 4, 2) := by decide +kernel
theorem dX10_formula_214 : decode cX10_formula 214 = .ok (.imul, 1) := by decide +kernel
theorem dX10_formula_215 : decode cX10_formula 215 = .ok (.iload 5, 2) := by decide +kernel
theorem dX10_formula_217 : decode cX10_formula 217 = .ok (.iadd, 1) := by decide +kernel
theorem dX10_formula_218 : decode cX10_formula 218 = .ok (.aload_n 0, 1) := by decide +kernel
theorem dX10_formula_219 : decode cX10_formula 219 = .ok (.getfield 73, 3) := by decide +kernel
theorem dX10_formula_222 : decode cX10_formula 222 = .ok (.iload 5, 2) := by decide +kernel
theorem dX10_formula_224 : decode cX10_formula 224 = .ok (.iaload, 1) := by decide +kernel
theorem dX10_formula_225 : decode cX10_formula 225 = .ok (.iastore, 1) := by decide +kernel
theorem dX10_formula_226 : decode cX10_formula 226 = .ok (.aload_n 0, 1) := by decide +kernel
theorem dX10_formula_227 : decode cX10_formula 227 = .ok (.getfield 41, 3) := by decide +kernel
theorem dX10_formula_230 : decode cX10_formula 230 = .ok (.bipush 40, 2) := by decide +kernel
theorem dX10_formula_232 : decode cX10_formula 232 = .ok (.iload 4, 2) := by decide +kernel
theorem dX10_formula_234 : decode cX10_formula 234 = .ok (.imul, 1) := by decide +kernel
theorem dX10_formula_235 : decode cX10_formula 235 = .ok (.iload 5, 2) := by decide +kernel
theorem dX10_formula_237 : decode cX10_formula 237 = .ok (.iadd, 1) := by decide +kernel
theorem dX10_formula_238 : decode cX10_formula 238 = .ok (.aload_n 0, 1) := by decide +kernel
theorem dX10_formula_239 : decode cX10_formula 239 = .ok (.getfield 76, 3) := by decide +kernel
theorem dX10_formula_242 : decode cX10_formula 242 = .ok (.iload 5, 2) := by decide +kernel
theorem dX10_formula_244 : decode cX10_formula 244 = .ok (.iaload, 1) := by decide +kernel
theorem dX10_formula_245 : decode cX10_formula 245 = .ok (.iastore, 1) := by decide +kernel
theorem dX10_formula_246 : decode cX10_formula 246 = .ok (.iinc 5 1, 3) := by decide +kernel
theorem dX10_formula_249 : decode cX10_formula 249 = .ok (.goto (-112), 3) := by decide +kernel
theorem dX10_formula_252 : decode cX10_formula 252 = .ok (.aload_n 0, 1) := by decide +kernel
theorem dX10_formula_253 : decode cX10_formula 253 = .ok (.getfield 44, 3) := by decide +kernel
theorem dX10_formula_256 : decode cX10_formula 256 = .ok (.iload 4, 2) := by decide +kernel
theorem dX10_formula_258 : decode cX10_formula 258 = .ok (.aload_n 0, 1) := by decide +kernel
theorem dX10_formula_259 : decode cX10_formula 259 = .ok (.iload 4, 2) := by decide +kernel
theorem dX10_formula_261 : decode cX10_formula 261 = .ok (.invokevirtual 197, 3) := by decide +kernel
theorem dX10_formula_264 : decode cX10_formula 264 = .ok (.lastore, 1) := by decide +kernel
theorem dX10_formula_265 : decode cX10_formula 265 = .ok (.aload_n 0, 1) := by decide +kernel
theorem dX10_formula_266 : decode cX10_formula 266 = .ok (.iconst 0, 1) := by decide +kernel
theorem dX10_formula_267 : decode cX10_formula 267 = .ok (.putfield 122, 3) := by decide +kernel
theorem dX10_formula_270 : decode cX10_formula 270 = .ok (.iconst 0, 1) := by decide +kernel
theorem dX10_formula_271 : decode cX10_formula 271 = .ok (.ireturn, 1) := by decide +kernel
theorem dX10_input_0 : decode cX10_input 0 = .ok (.iload_n 1, 1) := by decide +kernel
theorem dX10_input_1 : decode cX10_input 1 = .ok (.invokestatic 119, 3) := by decide +kernel
theorem dX10_input_4 : decode cX10_input 4 = .ok (.ifCond .eq 29, 3) := by decide +kernel
theorem dX10_input_7 : decode cX10_input 7 = .ok (.aload_n 0, 1) := by decide +kernel
theorem dX10_input_8 : decode cX10_input 8 = .ok (.getfield 48, 3) := by decide +kernel
theorem dX10_input_11 : decode cX10_input 11 = .ok (.iload_n 1, 1) := by decide +kernel
theorem dX10_input_12 : decode cX10_input 12 = .ok (.baload, 1) := by decide +kernel
theorem dX10_input_13 : decode cX10_input 13 = .ok (.ifCond .ne 20, 3) := by decide +kernel
theorem dX10_input_16 : decode cX10_input 16 = .ok (.aload_n 0, 1) := by decide +kernel
theorem dX10_input_17 : decode cX10_input 17 = .ok (.iload_n 1, 1) := by decide +kernel
theorem dX10_input_18 : decode cX10_input 18 = .ok (.invokevirtual 201, 3) := by decide +kernel
theorem dX10_input_21 : decode cX10_input 21 = .ok (.ifCond .ne 12, 3) := by decide +kernel
theorem dX10_input_24 : decode cX10_input 24 = .ok (.aload_n 0, 1) := by decide +kernel
theorem dX10_input_25 : decode cX10_input 25 = .ok (.getfield 204, 3) := by decide +kernel
theorem dX10_input_28 : decode cX10_input 28 = .ok (.bipush 8, 2) := by decide +kernel
theorem dX10_input_30 : decode cX10_input 30 = .ok (.if_icmp .ne 5, 3) := by decide +kernel
theorem dX10_input_33 : decode cX10_input 33 = .ok (.iconst 0, 1) := by decide +kernel
theorem dX10_input_34 : decode cX10_input 34 = .ok (.ireturn, 1) := by decide +kernel
theorem dX10_input_35 : decode cX10_input 35 = .ok (.aload_n 0, 1) := by decide +kernel
theorem dX10_input_36 : decode cX10_input 36 = .ok (.getfield 48, 3) := by decide +kernel
theorem dX10_input_39 : decode cX10_input 39 = .ok (.iload_n 1, 1) := by decide +kernel
theorem dX10_input_40 : decode cX10_input 40 = .ok (.iconst 1, 1) := by decide +kernel
theorem dX10_input_41 : decode cX10_input 41 = .ok (.bastore, 1) := by decide +kernel
theorem dX10_input_42 : decode cX10_input 42 = .ok (.aload_n 0, 1) := by decide +kernel
theorem dX10_input_43 : decode cX10_input 43 = .ok (.dup, 1) := by decide +kernel
theorem dX10_input_44 : decode cX10_input 44 = .ok (.getfield 204, 3) := by decide +kernel
theorem dX10_input_47 : decode cX10_input 47 = .ok (.iconst 1, 1) := by decide +kernel
theorem dX10_input_48 : decode cX10_input 48 = .ok (.iadd, 1) := by decide +kernel
theorem dX10_input_49 : decode cX10_input 49 = .ok (.putfield 204, 3) := by decide +kernel
theorem dX10_input_52 : decode cX10_input 52 = .ok (.aload_n 0, 1) := by decide +kernel
theorem dX10_input_53 : decode cX10_input 53 = .ok (.iconst 0, 1) := by decide +kernel
theorem dX10_input_54 : decode cX10_input 54 = .ok (.putfield 122, 3) := by decide +kernel
theorem dX10_input_57 : decode cX10_input 57 = .ok (.iconst 1, 1) := by decide +kernel
theorem dX10_input_58 : decode cX10_input 58 = .ok (.ireturn, 1) := by decide +kernel
theorem dX10_wants_0 : decode cX10_wants 0 = .ok (.iload_n 1, 1) := by decide +kernel
theorem dX10_wants_1 : decode cX10_wants 1 = .ok (.invokestatic 119, 3) := by decide +kernel
theorem dX10_wants_4 : decode cX10_wants 4 = .ok (.ifCond .eq 39, 3) := by decide +kernel
theorem dX10_wants_7 : decode cX10_wants 7 = .ok (.aload_n 0, 1) := by decide +kernel
theorem dX10_wants_8 : decode cX10_wants 8 = .ok (.getfield 48, 3) := by decide +kernel
theorem dX10_wants_11 : decode cX10_wants 11 = .ok (.iload_n 1, 1) := by decide +kernel
theorem dX10_wants_12 : decode cX10_wants 12 = .ok (.baload, 1) := by decide +kernel
theorem dX10_wants_13 : decode cX10_wants 13 = .ok (.ifCond .ne 30, 3) := by decide +kernel
theorem dX10_wants_16 : decode cX10_wants 16 = .ok (.iload_n 2, 1) := by decide +kernel
theorem dX10_wants_17 : decode cX10_wants 17 = .ok (.iconst 1, 1) := by decide +kernel
theorem dX10_wants_18 : decode cX10_wants 18 = .ok (.bipush 100, 2) := by decide +kernel
theorem dX10_wants_20 : decode cX10_wants 20 = .ok (.invokestatic 104, 3) := by decide +kernel
theorem dX10_wants_23 : decode cX10_wants 23 = .ok (.ifCond .eq 20, 3) := by decide +kernel
theorem dX10_wants_26 : decode cX10_wants 26 = .ok (.aload_n 0, 1) := by decide +kernel
theorem dX10_wants_27 : decode cX10_wants 27 = .ok (.iload_n 1, 1) := by decide +kernel
theorem dX10_wants_28 : decode cX10_wants 28 = .ok (.invokevirtual 201, 3) := by decide +kernel
theorem dX10_wants_31 : decode cX10_wants 31 = .ok (.ifCond .ne 14, 3) := by decide +kernel
theorem dX10_wants_34 : decode cX10_wants 34 = .ok (.aload_n 0, 1) := by decide +kernel
theorem dX10_wants_35 : decode cX10_wants 35 = .ok (.getfield 207, 3) := by decide +kernel
theorem dX10_wants_38 : decode cX10_wants 38 = .ok (.bipush 16, 2) := by decide +kernel
theorem dX10_wants_40 : decode cX10_wants 40 = .ok (.if_icmp .ne 5, 3) := by decide +kernel
theorem dX10_wants_43 : decode cX10_wants 43 = .ok (.iconst 0, 1) := by decide +kernel
theorem dX10_wants_44 : decode cX10_wants 44 = .ok (.ireturn, 1) := by decide +kernel
theorem dX10_wants_45 : decode cX10_wants 45 = .ok (.aload_n 0, 1) := by decide +kernel
theorem dX10_wants_46 : decode cX10_wants 46 = .ok (.dup, 1) := by decide +kernel
theorem dX10_wants_47 : decode cX10_wants 47 = .ok (.getfield 207, 3) := by decide +kernel
theorem dX10_wants_50 : decode cX10_wants 50 = .ok (.aload_n 0, 1) := by decide +kernel
theorem dX10_wants_51 : decode cX10_wants 51 = .ok (.iload_n 1, 1) := by decide +kernel
theorem dX10_wants_52 : decode cX10_wants 52 = .ok (.invokevirtual 201, 3) := by decide +kernel
theorem dX10_wants_55 : decode cX10_wants 55 = .ok (.ifCond .eq 7, 3) := by decide +kernel
theorem dX10_wants_58 : decode cX10_wants 58 = .ok (.iconst 0, 1) := by decide +kernel
theorem dX10_wants_59 : decode cX10_wants 59 = .ok (.goto 4, 3) := by decide +kernel
theorem dX10_wants_62 : decode cX10_wants 62 = .ok (.iconst 1, 1) := by decide +kernel
theorem dX10_wants_63 : decode cX10_wants 63 = .ok (.iadd, 1) := by decide +kernel
theorem dX10_wants_64 : decode cX10_wants 64 = .ok (.putfield 207, 3) := by decide +kernel
theorem dX10_wants_67 : decode cX10_wants 67 = .ok (.aload_n 0, 1) := by decide +kernel
theorem dX10_wants_68 : decode cX10_wants 68 = .ok (.getfield 52, 3) := by decide +kernel
theorem dX10_wants_71 : decode cX10_wants 71 = .ok (.iload_n 1, 1) := by decide +kernel
theorem dX10_wants_72 : decode cX10_wants 72 = .ok (.iload_n 2, 1) := by decide +kernel
theorem dX10_wants_73 : decode cX10_wants 73 = .ok (.iastore, 1) := by decide +kernel
theorem dX10_wants_74 : decode cX10_wants 74 = .ok (.aload_n 0, 1) := by decide +kernel
theorem dX10_wants_75 : decode cX10_wants 75 = .ok (.iconst 0, 1) := by decide +kernel
theorem dX10_wants_76 : decode cX10_wants 76 = .ok (.putfield 122, 3) := by decide +kernel
theorem dX10_wants_79 : decode cX10_wants 79 = .ok (.iconst 1, 1) := by decide +kernel
theorem dX10_wants_80 : decode cX10_wants 80 = .ok (.ireturn, 1) := by decide +kernel
theorem dX10_world_0 : decode cX10_world 0 = .ok (.aload_n 0, 1) := by decide +kernel
theorem dX10_world_1 : decode cX10_world 1 = .ok (.getfield 210, 3) := by decide +kernel
theorem dX10_world_4 : decode cX10_world 4 = .ok (.bipush 6, 2) := by decide +kernel
theorem dX10_world_6 : decode cX10_world 6 = .ok (.if_icmp .ne 5, 3) := by decide +kernel
theorem dX10_world_9 : decode cX10_world 9 = .ok (.iconst (-1), 1) := by decide +kernel
theorem dX10_world_10 : decode cX10_world 10 = .ok (.ireturn, 1) := by decide +kernel
theorem dX10_world_11 : decode cX10_world 11 = .ok (.aload_n 0, 1) := by decide +kernel
theorem dX10_world_12 : decode cX10_world 12 = .ok (.dup, 1) := by decide +kernel
theorem dX10_world_13 : decode cX10_world 13 = .ok (.getfield 210, 3) := by decide +kernel
theorem dX10_world_16 : decode cX10_world 16 = .ok (.iconst 1, 1) := by decide +kernel
theorem dX10_world_17 : decode cX10_world 17 = .ok (.iadd, 1) := by decide +kernel
theorem dX10_world_18 : decode cX10_world 18 = .ok (.putfield 210, 3) := by decide +kernel
theorem dX10_world_21 : decode cX10_world 21 = .ok (.aload_n 0, 1) := by decide +kernel
theorem dX10_world_22 : decode cX10_world 22 = .ok (.iconst 0, 1) := by decide +kernel
theorem dX10_world_23 : decode cX10_world 23 = .ok (.putfield 122, 3) := by decide +kernel
theorem dX10_world_26 : decode cX10_world 26 = .ok (.aload_n 0, 1) := by decide +kernel
theorem dX10_world_27 : decode cX10_world 27 = .ok (.getfield 210, 3) := by decide +kernel
theorem dX10_world_30 : decode cX10_world 30 = .ok (.iconst 1, 1) := by decide +kernel
theorem dX10_world_31 : decode cX10_world 31 = .ok (.isub, 1) := by decide +kernel
theorem dX10_world_32 : decode cX10_world 32 = .ok (.ireturn, 1) := by decide +kernel
theorem dX10_give_0 : decode cX10_give 0 = .ok (.iload_n 1, 1) := by decide +kernel
theorem dX10_give_1 : decode cX10_give 1 = .ok (.iconst 0, 1) := by decide +kernel
theorem dX10_give_2 : decode cX10_give 2 = .ok (.aload_n 0, 1) := by decide +kernel
theorem dX10_give_3 : decode cX10_give 3 = .ok (.getfield 210, 3) := by decide +kernel
theorem dX10_give_6 : decode cX10_give 6 = .ok (.iconst 1, 1) := by decide +kernel
theorem dX10_give_7 : decode cX10_give 7 = .ok (.isub, 1) := by decide +kernel
theorem dX10_give_8 : decode cX10_give 8 = .ok (.invokestatic 104, 3) := by decide +kernel
theorem dX10_give_11 : decode cX10_give 11 = .ok (.ifCond .eq 32, 3) := by decide +kernel
theorem dX10_give_14 : decode cX10_give 14 = .ok (.iload_n 2, 1) := by decide +kernel
theorem dX10_give_15 : decode cX10_give 15 = .ok (.invokestatic 119, 3) := by decide +kernel
theorem dX10_give_18 : decode cX10_give 18 = .ok (.ifCond .eq 25, 3) := by decide +kernel
theorem dX10_give_21 : decode cX10_give 21 = .ok (.aload_n 0, 1) := by decide +kernel
theorem dX10_give_22 : decode cX10_give 22 = .ok (.getfield 48, 3) := by decide +kernel
theorem dX10_give_25 : decode cX10_give 25 = .ok (.iload_n 2, 1) := by decide +kernel
theorem dX10_give_26 : decode cX10_give 26 = .ok (.baload, 1) := by decide +kernel
theorem dX10_give_27 : decode cX10_give 27 = .ok (.ifCond .eq 16, 3) := by decide +kernel
theorem dX10_give_30 : decode cX10_give 30 = .ok (.iload_n 3, 1) := by decide +kernel
theorem dX10_give_31 : decode cX10_give 31 = .ok (.sipush (-9999), 3) := by decide +kernel
theorem dX10_give_34 : decode cX10_give 34 = .ok (.sipush 9999, 3) := by decide +kernel
theorem dX10_give_37 : decode cX10_give 37 = .ok (.invokestatic 104, 3) := by decide +kernel
theorem dX10_give_40 : decode cX10_give 40 = .ok (.ifCond .ne 5, 3) := by decide +kernel
theorem dX10_give_43 : decode cX10_give 43 = .ok (.iconst 0, 1) := by decide +kernel
theorem dX10_give_44 : decode cX10_give 44 = .ok (.ireturn, 1) := by decide +kernel
theorem dX10_give_45 : decode cX10_give 45 = .ok (.aload_n 0, 1) := by decide +kernel
theorem dX10_give_46 : decode cX10_give 46 = .ok (.getfield 55, 3) := by decide +kernel
theorem dX10_give_49 : decode cX10_give 49 = .ok (.bipush 64, 2) := by decide +kernel
theorem dX10_give_51 : decode cX10_give 51 = .ok (.iload_n 1, 1) := by decide +kernel
theorem dX10_give_52 : decode cX10_give 52 = .ok (.imul, 1) := by decide +kernel
theorem dX10_give_53 : decode cX10_give 53 = .ok (.iload_n 2, 1) := by decide +kernel
theorem dX10_give_54 : decode cX10_give 54 = .ok (.iadd, 1) := by decide +kernel
theorem dX10_give_55 : decode cX10_give 55 = .ok (.iload_n 3, 1) := by decide +kernel
theorem dX10_give_56 : decode cX10_give 56 = .ok (.iastore, 1) := by decide +kernel
theorem dX10_give_57 : decode cX10_give 57 = .ok (.aload_n 0, 1) := by decide +kernel
theorem dX10_give_58 : decode cX10_give 58 = .ok (.iconst 0, 1) := by decide +kernel
theorem dX10_give_59 : decode cX10_give 59 = .ok (.putfield 122, 3) := by decide +kernel
theorem dX10_give_62 : decode cX10_give 62 = .ok (.iconst 1, 1) := by decide +kernel
theorem dX10_give_63 : decode cX10_give 63 = .ok (.ireturn, 1) := by decide +kernel
theorem dX10_isChanged_0 : decode cX10_isChanged 0 = .ok (.aload_n 0, 1) := by decide +kernel
theorem dX10_isChanged_1 : decode cX10_isChanged 1 = .ok (.getfield 85, 3) := by decide +kernel
theorem dX10_isChanged_4 : decode cX10_isChanged 4 = .ok (.bipush 40, 2) := by decide +kernel
theorem dX10_isChanged_6 : decode cX10_isChanged 6 = .ok (.iload_n 1, 1) := by decide +kernel
theorem dX10_isChanged_7 : decode cX10_isChanged 7 = .ok (.imul, 1) := by decide +kernel
theorem dX10_isChanged_8 : decode cX10_isChanged 8 = .ok (.iload_n 2, 1) := by decide +kernel
theorem dX10_isChanged_9 : decode cX10_isChanged 9 = .ok (.iadd, 1) := by decide +kernel
theorem dX10_isChanged_10 : decode cX10_isChanged 10 = .ok (.if_icmp .ne 7, 3) := by decide +kernel
theorem dX10_isChanged_13 : decode cX10_isChanged 13 = .ok (.iconst 1, 1) := by decide +kernel
theorem dX10_isChanged_14 : decode cX10_isChanged 14 = .ok (.goto 4, 3) := by decide +kernel
theorem dX10_isChanged_17 : decode cX10_isChanged 17 = .ok (.iconst 0, 1) := by decide +kernel
theorem dX10_isChanged_18 : decode cX10_isChanged 18 = .ok (.ireturn, 1) := by decide +kernel
theorem dX10_opOf_0 : decode cX10_opOf 0 = .ok (.aload_n 0, 1) := by decide +kernel
theorem dX10_opOf_1 : decode cX10_opOf 1 = .ok (.iload_n 1, 1) := by decide +kernel
theorem dX10_opOf_2 : decode cX10_opOf 2 = .ok (.iload_n 2, 1) := by decide +kernel
theorem dX10_opOf_3 : decode cX10_opOf 3 = .ok (.invokevirtual 213, 3) := by decide +kernel
theorem dX10_opOf_6 : decode cX10_opOf 6 = .ok (.ifCond .eq 10, 3) := by decide +kernel
theorem dX10_opOf_9 : decode cX10_opOf 9 = .ok (.aload_n 0, 1) := by decide +kernel
theorem dX10_opOf_10 : decode cX10_opOf 10 = .ok (.getfield 217, 3) := by decide +kernel
theorem dX10_opOf_13 : decode cX10_opOf 13 = .ok (.goto 14, 3) := by decide +kernel
theorem dX10_opOf_16 : decode cX10_opOf 16 = .ok (.aload_n 0, 1) := by decide +kernel
theorem dX10_opOf_17 : decode cX10_opOf 17 = .ok (.getfield 29, 3) := by decide +kernel
theorem dX10_opOf_20 : decode cX10_opOf 20 = .ok (.bipush 40, 2) := by decide +kernel
theorem dX10_opOf_22 : decode cX10_opOf 22 = .ok (.iload_n 1, 1) := by decide +kernel
theorem dX10_opOf_23 : decode cX10_opOf 23 = .ok (.imul, 1) := by decide +kernel
theorem dX10_opOf_24 : decode cX10_opOf 24 = .ok (.iload_n 2, 1) := by decide +kernel
theorem dX10_opOf_25 : decode cX10_opOf 25 = .ok (.iadd, 1) := by decide +kernel
theorem dX10_opOf_26 : decode cX10_opOf 26 = .ok (.iaload, 1) := by decide +kernel
theorem dX10_opOf_27 : decode cX10_opOf 27 = .ok (.ireturn, 1) := by decide +kernel
theorem dX10_argOf_0 : decode cX10_argOf 0 = .ok (.aload_n 0, 1) := by decide +kernel
theorem dX10_argOf_1 : decode cX10_argOf 1 = .ok (.iload_n 1, 1) := by decide +kernel
theorem dX10_argOf_2 : decode cX10_argOf 2 = .ok (.iload_n 2, 1) := by decide +kernel
theorem dX10_argOf_3 : decode cX10_argOf 3 = .ok (.invokevirtual 213, 3) := by decide +kernel
theorem dX10_argOf_6 : decode cX10_argOf 6 = .ok (.ifCond .eq 10, 3) := by decide +kernel
theorem dX10_argOf_9 : decode cX10_argOf 9 = .ok (.aload_n 0, 1) := by decide +kernel
theorem dX10_argOf_10 : decode cX10_argOf 10 = .ok (.getfield 220, 3) := by decide +kernel
theorem dX10_argOf_13 : decode cX10_argOf 13 = .ok (.goto 14, 3) := by decide +kernel
theorem dX10_argOf_16 : decode cX10_argOf 16 = .ok (.aload_n 0, 1) := by decide +kernel
theorem dX10_argOf_17 : decode cX10_argOf 17 = .ok (.getfield 32, 3) := by decide +kernel
theorem dX10_argOf_20 : decode cX10_argOf 20 = .ok (.bipush 40, 2) := by decide +kernel
theorem dX10_argOf_22 : decode cX10_argOf 22 = .ok (.iload_n 1, 1) := by decide +kernel
theorem dX10_argOf_23 : decode cX10_argOf 23 = .ok (.imul, 1) := by decide +kernel
theorem dX10_argOf_24 : decode cX10_argOf 24 = .ok (.iload_n 2, 1) := by decide +kernel
theorem dX10_argOf_25 : decode cX10_argOf 25 = .ok (.iadd, 1) := by decide +kernel
theorem dX10_argOf_26 : decode cX10_argOf 26 = .ok (.iaload, 1) := by decide +kernel
theorem dX10_argOf_27 : decode cX10_argOf 27 = .ok (.ireturn, 1) := by decide +kernel
theorem dX10_arg2Of_0 : decode cX10_arg2Of 0 = .ok (.aload_n 0, 1) := by decide +kernel
theorem dX10_arg2Of_1 : decode cX10_arg2Of 1 = .ok (.iload_n 1, 1) := by decide +kernel
theorem dX10_arg2Of_2 : decode cX10_arg2Of 2 = .ok (.iload_n 2, 1) := by decide +kernel
theorem dX10_arg2Of_3 : decode cX10_arg2Of 3 = .ok (.invokevirtual 213, 3) := by decide +kernel
theorem dX10_arg2Of_6 : decode cX10_arg2Of 6 = .ok (.ifCond .eq 10, 3) := by decide +kernel
theorem dX10_arg2Of_9 : decode cX10_arg2Of 9 = .ok (.aload_n 0, 1) := by decide +kernel
theorem dX10_arg2Of_10 : decode cX10_arg2Of 10 = .ok (.getfield 223, 3) := by decide +kernel
theorem dX10_arg2Of_13 : decode cX10_arg2Of 13 = .ok (.goto 14, 3) := by decide +kernel
theorem dX10_arg2Of_16 : decode cX10_arg2Of 16 = .ok (.aload_n 0, 1) := by decide +kernel
theorem dX10_arg2Of_17 : decode cX10_arg2Of 17 = .ok (.getfield 35, 3) := by decide +kernel
theorem dX10_arg2Of_20 : decode cX10_arg2Of 20 = .ok (.bipush 40, 2) := by decide +kernel
theorem dX10_arg2Of_22 : decode cX10_arg2Of 22 = .ok (.iload_n 1, 1) := by decide +kernel
theorem dX10_arg2Of_23 : decode cX10_arg2Of 23 = .ok (.imul, 1) := by decide +kernel
theorem dX10_arg2Of_24 : decode cX10_arg2Of 24 = .ok (.iload_n 2, 1) := by decide +kernel
theorem dX10_arg2Of_25 : decode cX10_arg2Of 25 = .ok (.iadd, 1) := by decide +kernel
theorem dX10_arg2Of_26 : decode cX10_arg2Of 26 = .ok (.iaload, 1) := by decide +kernel
theorem dX10_arg2Of_27 : decode cX10_arg2Of 27 = .ok (.ireturn, 1) := by decide +kernel
theorem dX10_isBetween_0 : decode cX10_isBetween 0 = .ok (.iload_n 1, 1) := by decide +kernel
theorem dX10_isBetween_1 : decode cX10_isBetween 1 = .ok (.iload_n 2, 1) := by decide +kernel
theorem dX10_isBetween_2 : decode cX10_isBetween 2 = .ok (.if_icmp .ge 12, 3) := by decide +kernel
theorem dX10_isBetween_5 : decode cX10_isBetween 5 = .ok (.iload_n 0, 1) := by decide +kernel
theorem dX10_isBetween_6 : decode cX10_isBetween 6 = .ok (.iload_n 1, 1) := by decide +kernel
theorem dX10_isBetween_7 : decode cX10_isBetween 7 = .ok (.iload_n 2, 1) := by decide +kernel
theorem dX10_isBetween_8 : decode cX10_isBetween 8 = .ok (.invokestatic 104, 3) := by decide +kernel
theorem dX10_isBetween_11 : decode cX10_isBetween 11 = .ok (.goto 9, 3) := by decide +kernel
theorem dX10_isBetween_14 : decode cX10_isBetween 14 = .ok (.iload_n 0, 1) := by decide +kernel
theorem dX10_isBetween_15 : decode cX10_isBetween 15 = .ok (.iload_n 2, 1) := by decide +kernel
theorem dX10_isBetween_16 : decode cX10_isBetween 16 = .ok (.iload_n 1, 1) := by decide +kernel
theorem dX10_isBetween_17 : decode cX10_isBetween 17 = .ok (.invokestatic 104, 3) := by decide +kernel
theorem dX10_isBetween_20 : decode cX10_isBetween 20 = .ok (.ireturn, 1) := by decide +kernel
theorem dX10_isWithin_0 : decode cX10_isWithin 0 = .ok (.iload_n 0, 1) := by decide +kernel
theorem dX10_isWithin_1 : decode cX10_isWithin 1 = .ok (.bipush 8, 2) := by decide +kernel
theorem dX10_isWithin_3 : decode cX10_isWithin 3 = .ok (.idiv, 1) := by decide +kernel
theorem dX10_isWithin_4 : decode cX10_isWithin 4 = .ok (.iload_n 1, 1) := by decide +kernel
theorem dX10_isWithin_5 : decode cX10_isWithin 5 = .ok (.bipush 8, 2) := by decide +kernel
theorem dX10_isWithin_7 : decode cX10_isWithin 7 = .ok (.idiv, 1) := by decide +kernel
theorem dX10_isWithin_8 : decode cX10_isWithin 8 = .ok (.iload_n 2, 1) := by decide +kernel
theorem dX10_isWithin_9 : decode cX10_isWithin 9 = .ok (.bipush 8, 2) := by decide +kernel
theorem dX10_isWithin_11 : decode cX10_isWithin 11 = .ok (.idiv, 1) := by decide +kernel
theorem dX10_isWithin_12 : decode cX10_isWithin 12 = .ok (.invokestatic 226, 3) := by decide +kernel
theorem dX10_isWithin_15 : decode cX10_isWithin 15 = .ok (.ifCond .eq 25, 3) := by decide +kernel
theorem dX10_isWithin_18 : decode cX10_isWithin 18 = .ok (.iload_n 0, 1) := by decide +kernel
theorem dX10_isWithin_19 : decode cX10_isWithin 19 = .ok (.bipush 8, 2) := by decide +kernel
theorem dX10_isWithin_21 : decode cX10_isWithin 21 = .ok (.irem, 1) := by decide +kernel
theorem dX10_isWithin_22 : decode cX10_isWithin 22 = .ok (.iload_n 1, 1) := by decide +kernel
theorem dX10_isWithin_23 : decode cX10_isWithin 23 = .ok (.bipush 8, 2) := by decide +kernel
theorem dX10_isWithin_25 : decode cX10_isWithin 25 = .ok (.irem, 1) := by decide +kernel
theorem dX10_isWithin_26 : decode cX10_isWithin 26 = .ok (.iload_n 2, 1) := by decide +kernel
theorem dX10_isWithin_27 : decode cX10_isWithin 27 = .ok (.bipush 8, 2) := by decide +kernel
theorem dX10_isWithin_29 : decode cX10_isWithin 29 = .ok (.irem, 1) := by decide +kernel
theorem dX10_isWithin_30 : decode cX10_isWithin 30 = .ok (.invokestatic 226, 3) := by decide +kernel
theorem dX10_isWithin_33 : decode cX10_isWithin 33 = .ok (.ifCond .eq 7, 3) := by decide +kernel
theorem dX10_isWithin_36 : decode cX10_isWithin 36 = .ok (.iconst 1, 1) := by decide +kernel
theorem dX10_isWithin_37 : decode cX10_isWithin 37 = .ok (.goto 4, 3) := by decide +kernel
theorem dX10_isWithin_40 : decode cX10_isWithin 40 = .ok (.iconst 0, 1) := by decide +kernel
theorem dX10_isWithin_41 : decode cX10_isWithin 41 = .ok (.ireturn, 1) := by decide +kernel
theorem dX10_needs_0 : decode cX10_needs 0 = .ok (.bipush 64, 2) := by decide +kernel
theorem dX10_needs_2 : decode cX10_needs 2 = .ok (.iload_n 1, 1) := by decide +kernel
theorem dX10_needs_3 : decode cX10_needs 3 = .ok (.imul, 1) := by decide +kernel
theorem dX10_needs_4 : decode cX10_needs 4 = .ok (.iload_n 2, 1) := by decide +kernel
theorem dX10_needs_5 : decode cX10_needs 5 = .ok (.iadd, 1) := by decide +kernel
theorem dX10_needs_6 : decode cX10_needs 6 = .ok (.istore_n 3, 1) := by decide +kernel
theorem dX10_needs_7 : decode cX10_needs 7 = .ok (.aload_n 0, 1) := by decide +kernel
theorem dX10_needs_8 : decode cX10_needs 8 = .ok (.getfield 13, 3) := by decide +kernel
theorem dX10_needs_11 : decode cX10_needs 11 = .ok (.iload_n 3, 1) := by decide +kernel
theorem dX10_needs_12 : decode cX10_needs 12 = .ok (.iaload, 1) := by decide +kernel
theorem dX10_needs_13 : decode cX10_needs 13 = .ok (.iconst 2, 1) := by decide +kernel
theorem dX10_needs_14 : decode cX10_needs 14 = .ok (.if_icmp .ne 12, 3) := by decide +kernel
theorem dX10_needs_17 : decode cX10_needs 17 = .ok (.aload_n 0, 1) := by decide +kernel
theorem dX10_needs_18 : decode cX10_needs 18 = .ok (.getfield 48, 3) := by decide +kernel
theorem dX10_needs_21 : decode cX10_needs 21 = .ok (.iload_n 2, 1) := by decide +kernel
theorem dX10_needs_22 : decode cX10_needs 22 = .ok (.baload, 1) := by decide +kernel
theorem dX10_needs_23 : decode cX10_needs 23 = .ok (.ifCond .eq 5, 3) := by decide +kernel
theorem dX10_needs_26 : decode cX10_needs 26 = .ok (.lconst 0, 1) := by decide +kernel
theorem dX10_needs_27 : decode cX10_needs 27 = .ok (.lreturn, 1) := by decide +kernel
theorem dX10_needs_28 : decode cX10_needs 28 = .ok (.aload_n 0, 1) := by decide +kernel
theorem dX10_needs_29 : decode cX10_needs 29 = .ok (.getfield 85, 3) := by decide +kernel
theorem dX10_needs_32 : decode cX10_needs 32 = .ok (.bipush 40, 2) := by decide +kernel
theorem dX10_needs_34 : decode cX10_needs 34 = .ok (.iload_n 3, 1) := by decide +kernel
theorem dX10_needs_35 : decode cX10_needs 35 = .ok (.imul, 1) := by decide +kernel
theorem dX10_needs_36 : decode cX10_needs 36 = .ok (.if_icmp .lt 25, 3) := by decide +kernel
theorem dX10_needs_39 : decode cX10_needs 39 = .ok (.aload_n 0, 1) := by decide +kernel
theorem dX10_needs_40 : decode cX10_needs 40 = .ok (.getfield 85, 3) := by decide +kernel
theorem dX10_needs_43 : decode cX10_needs 43 = .ok (.bipush 40, 2) := by decide +kernel
theorem dX10_needs_45 : decode cX10_needs 45 = .ok (.iload_n 3, 1) := by decide +kernel
theorem dX10_needs_46 : decode cX10_needs 46 = .ok (.imul, 1) := by decide +kernel
theorem dX10_needs_47 : decode cX10_needs 47 = .ok (.bipush 40, 2) := by decide +kernel
theorem dX10_needs_49 : decode cX10_needs 49 = .ok (.iadd, 1) := by decide +kernel
theorem dX10_needs_50 : decode cX10_needs 50 = .ok (.if_icmp .ge 11, 3) := by decide +kernel
theorem dX10_needs_53 : decode cX10_needs 53 = .ok (.aload_n 0, 1) := by decide +kernel
theorem dX10_needs_54 : decode cX10_needs 54 = .ok (.iload_n 3, 1) := by decide +kernel
theorem dX10_needs_55 : decode cX10_needs 55 = .ok (.invokevirtual 197, 3) := by decide +kernel
theorem dX10_needs_58 : decode cX10_needs 58 = .ok (.goto 9, 3) := by decide +kernel
theorem dX10_needs_61 : decode cX10_needs 61 = .ok (.aload_n 0, 1) := by decide +kernel
theorem dX10_needs_62 : decode cX10_needs 62 = .ok (.getfield 44, 3) := by decide +kernel
theorem dX10_needs_65 : decode cX10_needs 65 = .ok (.iload_n 3, 1) := by decide +kernel
theorem dX10_needs_66 : decode cX10_needs 66 = .ok (.laload, 1) := by decide +kernel
theorem dX10_needs_67 : decode cX10_needs 67 = .ok (.lreturn, 1) := by decide +kernel
theorem dX10_names0_0 : decode cX10_names0 0 = .ok (.lconst 0, 1) := by decide +kernel
theorem dX10_names0_1 : decode cX10_names0 1 = .ok (.lstore_n 2, 1) := by decide +kernel
theorem dX10_names0_2 : decode cX10_names0 2 = .ok (.iconst 0, 1) := by decide +kernel
theorem dX10_names0_3 : decode cX10_names0 3 = .ok (.istore 4, 2) := by decide +kernel
theorem dX10_names0_5 : decode cX10_names0 5 = .ok (.iload 4, 2) := by decide +kernel
theorem dX10_names0_7 : decode cX10_names0 7 = .ok (.aload_n 0, 1) := by decide +kernel
theorem dX10_names0_8 : decode cX10_names0 8 = .ok (.getfield 26, 3) := by decide +kernel
theorem dX10_names0_11 : decode cX10_names0 11 = .ok (.iload_n 1, 1) := by decide +kernel
theorem dX10_names0_12 : decode cX10_names0 12 = .ok (.iaload, 1) := by decide +kernel
theorem dX10_names0_13 : decode cX10_names0 13 = .ok (.if_icmp .ge 90, 3) := by decide +kernel
theorem dX10_names0_16 : decode cX10_names0 16 = .ok (.aload_n 0, 1) := by decide +kernel
theorem dX10_names0_17 : decode cX10_names0 17 = .ok (.iload_n 1, 1) := by decide +kernel
theorem dX10_names0_18 : decode cX10_names0 18 = .ok (.iload 4, 2) := by decide +kernel
theorem dX10_names0_20 : decode cX10_names0 20 = .ok (.invokevirtual 229, 3) := by decide +kernel
theorem dX10_names0_23 : decode cX10_names0 23 = .ok (.istore 5, 2) := by decide +kernel
theorem dX10_names0_25 : decode cX10_names0 25 = .ok (.iload 5, 2) := by decide +kernel
theorem dX10_names0_27 : decode cX10_names0 27 = .ok (.iconst 1, 1) := by decide +kernel
theorem dX10_names0_28 : decode cX10_names0 28 = .ok (.if_icmp .ne 15, 3) := by decide +kernel
theorem dX10_names0_31 : decode cX10_names0 31 = .ok (.lload_n 2, 1) := by decide +kernel
theorem dX10_names0_32 : decode cX10_names0 32 = .ok (.lconst 1, 1) := by decide +kernel
theorem dX10_names0_33 : decode cX10_names0 33 = .ok (.aload_n 0, 1) := by decide +kernel
theorem dX10_names0_34 : decode cX10_names0 34 = .ok (.iload_n 1, 1) := by decide +kernel
theorem dX10_names0_35 : decode cX10_names0 35 = .ok (.iload 4, 2) := by decide +kernel
theorem dX10_names0_37 : decode cX10_names0 37 = .ok (.invokevirtual 233, 3) := by decide +kernel
theorem dX10_names0_40 : decode cX10_names0 40 = .ok (.lshl, 1) := by decide +kernel
theorem dX10_names0_41 : decode cX10_names0 41 = .ok (.lor, 1) := by decide +kernel
theorem dX10_names0_42 : decode cX10_names0 42 = .ok (.lstore_n 2, 1) := by decide +kernel
theorem dX10_names0_43 : decode cX10_names0 43 = .ok (.iload 5, 2) := by decide +kernel
theorem dX10_names0_45 : decode cX10_names0 45 = .ok (.iconst 2, 1) := by decide +kernel
theorem dX10_names0_46 : decode cX10_names0 46 = .ok (.if_icmp .eq 6, 3) := by decide +kernel
theorem dX10_names0_49 : decode cX10_names0 49 = .ok (.goto 48, 3) := by decide +kernel
theorem dX10_names0_52 : decode cX10_names0 52 = .ok (.iconst 0, 1) := by decide +kernel
theorem dX10_names0_53 : decode cX10_names0 53 = .ok (.istore 6, 2) := by decide +kernel
theorem dX10_names0_55 : decode cX10_names0 55 = .ok (.iload 6, 2) := by decide +kernel
theorem dX10_names0_57 : decode cX10_names0 57 = .ok (.bipush 64, 2) := by decide +kernel
theorem dX10_names0_59 : decode cX10_names0 59 = .ok (.if_icmp .ge 38, 3) := by decide +kernel
theorem dX10_names0_62 : decode cX10_names0 62 = .ok (.iload 6, 2) := by decide +kernel
theorem dX10_names0_64 : decode cX10_names0 64 = .ok (.aload_n 0, 1) := by decide +kernel
theorem dX10_names0_65 : decode cX10_names0 65 = .ok (.iload_n 1, 1) := by decide +kernel
theorem dX10_names0_66 : decode cX10_names0 66 = .ok (.iload 4, 2) := by decide +kernel
theorem dX10_names0_68 : decode cX10_names0 68 = .ok (.invokevirtual 233, 3) := by decide +kernel
theorem dX10_names0_71 : decode cX10_names0 71 = .ok (.aload_n 0, 1) := by decide +kernel
theorem dX10_names0_72 : decode cX10_names0 72 = .ok (.iload_n 1, 1) := by decide +kernel
theorem dX10_names0_73 : decode cX10_names0 73 = .ok (.iload 4, 2) := by decide +kernel
theorem dX10_names0_75 : decode cX10_names0 75 = .ok (.invokevirtual 236, 3) := by decide +kernel
theorem dX10_names0_78 : decode cX10_names0 78 = .ok (.invokestatic 239, 3) := by decide +kernel
theorem dX10_names0_81 : decode cX10_names0 81 = .ok (.ifCond .eq 10, 3) := by decide +kernel
theorem dX10_names0_84 : decode cX10_names0 84 = .ok (.lload_n 2, 1) := by decide +kernel
theorem dX10_names0_85 : decode cX10_names0 85 = .ok (.lconst 1, 1) := by decide +kernel
theorem dX10_names0_86 : decode cX10_names0 86 = .ok (.iload 6, 2) := by decide +kernel
theorem dX10_names0_88 : decode cX10_names0 88 = .ok (.lshl, 1) := by decide +kernel
theorem dX10_names0_89 : decode cX10_names0 89 = .ok (.lor, 1) := by decide +kernel
theorem dX10_names0_90 : decode cX10_names0 90 = .ok (.lstore_n 2, 1) := by decide +kernel
theorem dX10_names0_91 : decode cX10_names0 91 = .ok (.iinc 6 1, 3) := by decide +kernel
theorem dX10_names0_94 : decode cX10_names0 94 = .ok (.goto (-39), 3) := by decide +kernel
theorem dX10_names0_97 : decode cX10_names0 97 = .ok (.iinc 4 1, 3) := by decide +kernel
theorem dX10_names0_100 : decode cX10_names0 100 = .ok (.goto (-95), 3) := by decide +kernel
theorem dX10_names0_103 : decode cX10_names0 103 = .ok (.lload_n 2, 1) := by decide +kernel
theorem dX10_names0_104 : decode cX10_names0 104 = .ok (.lreturn, 1) := by decide +kernel
theorem dX10_has_0 : decode cX10_has 0 = .ok (.lload_n 0, 1) := by decide +kernel
theorem dX10_has_1 : decode cX10_has 1 = .ok (.iload_n 2, 1) := by decide +kernel
theorem dX10_has_2 : decode cX10_has 2 = .ok (.lshr, 1) := by decide +kernel
theorem dX10_has_3 : decode cX10_has 3 = .ok (.lconst 1, 1) := by decide +kernel
theorem dX10_has_4 : decode cX10_has 4 = .ok (.land, 1) := by decide +kernel
theorem dX10_has_5 : decode cX10_has 5 = .ok (.lconst 1, 1) := by decide +kernel
theorem dX10_has_6 : decode cX10_has 6 = .ok (.lcmp, 1) := by decide +kernel
theorem dX10_has_7 : decode cX10_has 7 = .ok (.ifCond .ne 7, 3) := by decide +kernel
theorem dX10_has_10 : decode cX10_has 10 = .ok (.iconst 1, 1) := by decide +kernel
theorem dX10_has_11 : decode cX10_has 11 = .ok (.goto 4, 3) := by decide +kernel
theorem dX10_has_14 : decode cX10_has 14 = .ok (.iconst 0, 1) := by decide +kernel
theorem dX10_has_15 : decode cX10_has 15 = .ok (.ireturn, 1) := by decide +kernel
theorem dX10_isTold_0 : decode cX10_isTold 0 = .ok (.aload_n 0, 1) := by decide +kernel
theorem dX10_isTold_1 : decode cX10_isTold 1 = .ok (.getfield 48, 3) := by decide +kernel
theorem dX10_isTold_4 : decode cX10_isTold 4 = .ok (.iload_n 1, 1) := by decide +kernel
theorem dX10_isTold_5 : decode cX10_isTold 5 = .ok (.baload, 1) := by decide +kernel
theorem dX10_isTold_6 : decode cX10_isTold 6 = .ok (.ifCond .ne 20, 3) := by decide +kernel
theorem dX10_isTold_9 : decode cX10_isTold 9 = .ok (.iload_n 3, 1) := by decide +kernel
theorem dX10_isTold_10 : decode cX10_isTold 10 = .ok (.ifCond .eq 20, 3) := by decide +kernel
theorem dX10_isTold_13 : decode cX10_isTold 13 = .ok (.iload_n 1, 1) := by decide +kernel
theorem dX10_isTold_14 : decode cX10_isTold 14 = .ok (.iload_n 2, 1) := by decide +kernel
theorem dX10_isTold_15 : decode cX10_isTold 15 = .ok (.if_icmp .eq 15, 3) := by decide +kernel
theorem dX10_isTold_18 : decode cX10_isTold 18 = .ok (.aload_n 0, 1) := by decide +kernel
theorem dX10_isTold_19 : decode cX10_isTold 19 = .ok (.iload_n 1, 1) := by decide +kernel
theorem dX10_isTold_20 : decode cX10_isTold 20 = .ok (.invokevirtual 201, 3) := by decide +kernel
theorem dX10_isTold_23 : decode cX10_isTold 23 = .ok (.ifCond .eq 7, 3) := by decide +kernel
theorem dX10_isTold_26 : decode cX10_isTold 26 = .ok (.iconst 1, 1) := by decide +kernel
theorem dX10_isTold_27 : decode cX10_isTold 27 = .ok (.goto 4, 3) := by decide +kernel
theorem dX10_isTold_30 : decode cX10_isTold 30 = .ok (.iconst 0, 1) := by decide +kernel
theorem dX10_isTold_31 : decode cX10_isTold 31 = .ok (.ireturn, 1) := by decide +kernel
theorem dX10_orders_0 : decode cX10_orders 0 = .ok (.lconst 1, 1) := by decide +kernel
theorem dX10_orders_1 : decode cX10_orders 1 = .ok (.iload_n 2, 1) := by decide +kernel
theorem dX10_orders_2 : decode cX10_orders 2 = .ok (.lshl, 1) := by decide +kernel
theorem dX10_orders_3 : decode cX10_orders 3 = .ok (.lstore 4, 2) := by decide +kernel
theorem dX10_orders_5 : decode cX10_orders 5 = .ok (.lconst 0, 1) := by decide +kernel
theorem dX10_orders_6 : decode cX10_orders 6 = .ok (.lstore 6, 2) := by decide +kernel
theorem dX10_orders_8 : decode cX10_orders 8 = .ok (.iconst 1, 1) := by decide +kernel
theorem dX10_orders_9 : decode cX10_orders 9 = .ok (.istore 8, 2) := by decide +kernel
theorem dX10_orders_11 : decode cX10_orders 11 = .ok (.iload 8, 2) := by decide +kernel
theorem dX10_orders_13 : decode cX10_orders 13 = .ok (.ifCond .eq 101, 3) := by decide +kernel
theorem dX10_orders_16 : decode cX10_orders 16 = .ok (.iconst 0, 1) := by decide +kernel
theorem dX10_orders_17 : decode cX10_orders 17 = .ok (.istore 8, 2) := by decide +kernel
theorem dX10_orders_19 : decode cX10_orders 19 = .ok (.iconst 0, 1) := by decide +kernel
theorem dX10_orders_20 : decode cX10_orders 20 = .ok (.istore 9, 2) := by decide +kernel
theorem dX10_orders_22 : decode cX10_orders 22 = .ok (.iload 9, 2) := by decide +kernel
theorem dX10_orders_24 : decode cX10_orders 24 = .ok (.bipush 64, 2) := by decide +kernel
theorem dX10_orders_26 : decode cX10_orders 26 = .ok (.if_icmp .ge 85, 3) := by decide +kernel
theorem dX10_orders_29 : decode cX10_orders 29 = .ok (.lload 4, 2) := by decide +kernel
theorem dX10_orders_31 : decode cX10_orders 31 = .ok (.iload 9, 2) := by decide +kernel
theorem dX10_orders_33 : decode cX10_orders 33 = .ok (.invokestatic 242, 3) := by decide +kernel
theorem dX10_orders_36 : decode cX10_orders 36 = .ok (.ifCond .eq 69, 3) := by decide +kernel
theorem dX10_orders_39 : decode cX10_orders 39 = .ok (.lload 6, 2) := by decide +kernel
theorem dX10_orders_41 : decode cX10_orders 41 = .ok (.iload 9, 2) := by decide +kernel
theorem dX10_orders_43 : decode cX10_orders 43 = .ok (.invokestatic 242, 3) := by decide +kernel
theorem dX10_orders_46 : decode cX10_orders 46 = .ok (.ifCond .eq 6, 3) := by decide +kernel
theorem dX10_orders_49 : decode cX10_orders 49 = .ok (.goto 56, 3) := by decide +kernel
theorem dX10_orders_52 : decode cX10_orders 52 = .ok (.aload_n 0, 1) := by decide +kernel
theorem dX10_orders_53 : decode cX10_orders 53 = .ok (.getfield 92, 3) := by decide +kernel
theorem dX10_orders_56 : decode cX10_orders 56 = .ok (.iload 9, 2) := by decide +kernel
theorem dX10_orders_58 : decode cX10_orders 58 = .ok (.aload_n 0, 1) := by decide +kernel
theorem dX10_orders_59 : decode cX10_orders 59 = .ok (.iload 9, 2) := by decide +kernel
theorem dX10_orders_61 : decode cX10_orders 61 = .ok (.iload_n 2, 1) := by decide +kernel
theorem dX10_orders_62 : decode cX10_orders 62 = .ok (.iload_n 3, 1) := by decide +kernel
theorem dX10_orders_63 : decode cX10_orders 63 = .ok (.invokevirtual 246, 3) := by decide +kernel
theorem dX10_orders_66 : decode cX10_orders 66 = .ok (.ifCond .eq 7, 3) := by decide +kernel
theorem dX10_orders_69 : decode cX10_orders 69 = .ok (.lconst 0, 1) := by decide +kernel
theorem dX10_orders_70 : decode cX10_orders 70 = .ok (.goto 10, 3) := by decide +kernel
theorem dX10_orders_73 : decode cX10_orders 73 = .ok (.aload_n 0, 1) := by decide +kernel
theorem dX10_orders_74 : decode cX10_orders 74 = .ok (.iload_n 1, 1) := by decide +kernel
theorem dX10_orders_75 : decode cX10_orders 75 = .ok (.iload 9, 2) := by decide +kernel
theorem dX10_orders_77 : decode cX10_orders 77 = .ok (.invokevirtual 250, 3) := by decide +kernel
theorem dX10_orders_80 : decode cX10_orders 80 = .ok (.lastore, 1) := by decide +kernel
theorem dX10_orders_81 : decode cX10_orders 81 = .ok (.lload 4, 2) := by decide +kernel
theorem dX10_orders_83 : decode cX10_orders 83 = .ok (.aload_n 0, 1) := by decide +kernel
theorem dX10_orders_84 : decode cX10_orders 84 = .ok (.getfield 92, 3) := by decide +kernel
theorem dX10_orders_87 : decode cX10_orders 87 = .ok (.iload 9, 2) := by decide +kernel
theorem dX10_orders_89 : decode cX10_orders 89 = .ok (.laload, 1) := by decide +kernel
theorem dX10_orders_90 : decode cX10_orders 90 = .ok (.lor, 1) := by decide +kernel
theorem dX10_orders_91 : decode cX10_orders 91 = .ok (.lstore 4, 2) := by decide +kernel
theorem dX10_orders_93 : decode cX10_orders 93 = .ok (.lload 6, 2) := by decide +kernel
theorem dX10_orders_95 : decode cX10_orders 95 = .ok (.lconst 1, 1) := by decide +kernel
theorem dX10_orders_96 : decode cX10_orders 96 = .ok (.iload 9, 2) := by decide +kernel
theorem dX10_orders_98 : decode cX10_orders 98 = .ok (.lshl, 1) := by decide +kernel
theorem dX10_orders_99 : decode cX10_orders 99 = .ok (.lor, 1) := by decide +kernel
theorem dX10_orders_100 : decode cX10_orders 100 = .ok (.lstore 6, 2) := by decide +kernel
theorem dX10_orders_102 : decode cX10_orders 102 = .ok (.iconst 1, 1) := by decide +kernel
theorem dX10_orders_103 : decode cX10_orders 103 = .ok (.istore 8, 2) := by decide +kernel
theorem dX10_orders_105 : decode cX10_orders 105 = .ok (.iinc 9 1, 3) := by decide +kernel
theorem dX10_orders_108 : decode cX10_orders 108 = .ok (.goto (-86), 3) := by decide +kernel
theorem dX10_orders_111 : decode cX10_orders 111 = .ok (.goto (-100), 3) := by decide +kernel
theorem dX10_orders_114 : decode cX10_orders 114 = .ok (.lconst 0, 1) := by decide +kernel
theorem dX10_orders_115 : decode cX10_orders 115 = .ok (.lstore 9, 2) := by decide +kernel
theorem dX10_orders_117 : decode cX10_orders 117 = .ok (.aload_n 0, 1) := by decide +kernel
theorem dX10_orders_118 : decode cX10_orders 118 = .ok (.iconst 0, 1) := by decide +kernel
theorem dX10_orders_119 : decode cX10_orders 119 = .ok (.putfield 254, 3) := by decide +kernel
theorem dX10_orders_122 : decode cX10_orders 122 = .ok (.iconst 1, 1) := by decide +kernel
theorem dX10_orders_123 : decode cX10_orders 123 = .ok (.istore 8, 2) := by decide +kernel
theorem dX10_orders_125 : decode cX10_orders 125 = .ok (.iload 8, 2) := by decide +kernel
theorem dX10_orders_127 : decode cX10_orders 127 = .ok (.ifCond .eq 100, 3) := by decide +kernel
theorem dX10_orders_130 : decode cX10_orders 130 = .ok (.iconst 0, 1) := by decide +kernel
theorem dX10_orders_131 : decode cX10_orders 131 = .ok (.istore 8, 2) := by decide +kernel
theorem dX10_orders_133 : decode cX10_orders 133 = .ok (.iconst 0, 1) := by decide +kernel
theorem dX10_orders_134 : decode cX10_orders 134 = .ok (.istore 11, 2) := by decide +kernel
theorem dX10_orders_136 : decode cX10_orders 136 = .ok (.iload 11, 2) := by decide +kernel
theorem dX10_orders_138 : decode cX10_orders 138 = .ok (.bipush 64, 2) := by decide +kernel
theorem dX10_orders_140 : decode cX10_orders 140 = .ok (.if_icmp .ge 84, 3) := by decide +kernel
theorem dX10_orders_143 : decode cX10_orders 143 = .ok (.lload 4, 2) := by decide +kernel
theorem dX10_orders_145 : decode cX10_orders 145 = .ok (.iload 11, 2) := by decide +kernel
theorem dX10_orders_147 : decode cX10_orders 147 = .ok (.invokestatic 242, 3) := by decide +kernel
theorem dX10_orders_150 : decode cX10_orders 150 = .ok (.ifCond .eq 68, 3) := by decide +kernel
theorem dX10_orders_153 : decode cX10_orders 153 = .ok (.lload 9, 2) := by decide +kernel
theorem dX10_orders_155 : decode cX10_orders 155 = .ok (.iload 11, 2) := by decide +kernel
theorem dX10_orders_157 : decode cX10_orders 157 = .ok (.invokestatic 242, 3) := by decide +kernel
theorem dX10_orders_160 : decode cX10_orders 160 = .ok (.ifCond .ne 58, 3) := by decide +kernel
theorem dX10_orders_163 : decode cX10_orders 163 = .ok (.aload_n 0, 1) := by decide +kernel
theorem dX10_orders_164 : decode cX10_orders 164 = .ok (.getfield 92, 3) := by decide +kernel
theorem dX10_orders_167 : decode cX10_orders 167 = .ok (.iload 11, 2) := by decide +kernel
theorem dX10_orders_169 : decode cX10_orders 169 = .ok (.laload, 1) := by decide +kernel
theorem dX10_orders_170 : decode cX10_orders 170 = .ok (.lload 9, 2) := by decide +kernel
theorem dX10_orders_172 : decode cX10_orders 172 = .ok (.ldc2_w 257, 3) := by decide +kernel
theorem dX10_orders_175 : decode cX10_orders 175 = .ok (.lxor, 1) := by decide +kernel
theorem dX10_orders_176 : decode cX10_orders 176 = .ok (.land, 1) := by decide +kernel
theorem dX10_orders_177 : decode cX10_orders 177 = .ok (.lconst 0, 1) := by decide +kernel
theorem dX10_orders_178 : decode cX10_orders 178 = .ok (.lcmp, 1) := by decide +kernel
theorem dX10_orders_179 : decode cX10_orders 179 = .ok (.ifCond .eq 6, 3) := by decide +kernel
theorem dX10_orders_182 : decode cX10_orders 182 = .ok (.goto 36, 3) := by decide +kernel
theorem dX10_orders_185 : decode cX10_orders 185 = .ok (.aload_n 0, 1) := by decide +kernel
theorem dX10_orders_186 : decode cX10_orders 186 = .ok (.getfield 89, 3) := by decide +kernel
theorem dX10_orders_189 : decode cX10_orders 189 = .ok (.aload_n 0, 1) := by decide +kernel
theorem dX10_orders_190 : decode cX10_orders 190 = .ok (.getfield 254, 3) := by decide +kernel
theorem dX10_orders_193 : decode cX10_orders 193 = .ok (.iload 11, 2) := by decide +kernel
theorem dX10_orders_195 : decode cX10_orders 195 = .ok (.iastore, 1) := by decide +kernel
theorem dX10_orders_196 : decode cX10_orders 196 = .ok (.aload_n 0, 1) := by decide +kernel
theorem dX10_orders_197 : decode cX10_orders 197 = .ok (.dup, 1) := by decide +kernel
theorem dX10_orders_198 : decode cX10_orders 198 = .ok (.getfield 254, 3) := by decide +kernel
theorem dX10_orders_201 : decode cX10_orders 201 = .ok (.iconst 1, 1) := by decide +kernel
theorem dX10_orders_202 : decode cX10_orders 202 = .ok (.iadd, 1) := by decide +kernel
theorem dX10_orders_203 : decode cX10_orders 203 = .ok (.putfield 254, 3) := by decide +kernel
theorem dX10_orders_206 : decode cX10_orders 206 = .ok (.lload 9, 2) := by decide +kernel
theorem dX10_orders_208 : decode cX10_orders 208 = .ok (.lconst 1, 1) := by decide +kernel
theorem dX10_orders_209 : decode cX10_orders 209 = .ok (.iload 11, 2) := by decide +kernel
theorem dX10_orders_211 : decode cX10_orders 211 = .ok (.lshl, 1) := by decide +kernel
theorem dX10_orders_212 : decode cX10_orders 212 = .ok (.lor, 1) := by decide +kernel
theorem dX10_orders_213 : decode cX10_orders 213 = .ok (.lstore 9, 2) := by decide +kernel
theorem dX10_orders_215 : decode cX10_orders 215 = .ok (.iconst 1, 1) := by decide +kernel
theorem dX10_orders_216 : decode cX10_orders 216 = .ok (.istore 8, 2) := by decide +kernel
theorem dX10_orders_218 : decode cX10_orders 218 = .ok (.iinc 11 1, 3) := by decide +kernel
theorem dX10_orders_221 : decode cX10_orders 221 = .ok (.goto (-85), 3) := by decide +kernel
theorem dX10_orders_224 : decode cX10_orders 224 = .ok (.goto (-99), 3) := by decide +kernel
theorem dX10_orders_227 : decode cX10_orders 227 = .ok (.lload 9, 2) := by decide +kernel
theorem dX10_orders_229 : decode cX10_orders 229 = .ok (.lload 4, 2) := by decide +kernel
theorem dX10_orders_231 : decode cX10_orders 231 = .ok (.lcmp, 1) := by decide +kernel
theorem dX10_orders_232 : decode cX10_orders 232 = .ok (.ifCond .ne 7, 3) := by decide +kernel
theorem dX10_orders_235 : decode cX10_orders 235 = .ok (.iconst 1, 1) := by decide +kernel
theorem dX10_orders_236 : decode cX10_orders 236 = .ok (.goto 4, 3) := by decide +kernel
theorem dX10_orders_239 : decode cX10_orders 239 = .ok (.iconst 0, 1) := by decide +kernel
theorem dX10_orders_240 : decode cX10_orders 240 = .ok (.ireturn, 1) := by decide +kernel
theorem dX10_comes_0 : decode cX10_comes 0 = .ok (.lload_n 1, 1) := by decide +kernel
theorem dX10_comes_1 : decode cX10_comes 1 = .ok (.ldc2_w 259, 3) := by decide +kernel
theorem dX10_comes_4 : decode cX10_comes 4 = .ok (.lcmp, 1) := by decide +kernel
theorem dX10_comes_5 : decode cX10_comes 5 = .ok (.ifCond .gt 11, 3) := by decide +kernel
theorem dX10_comes_8 : decode cX10_comes 8 = .ok (.lload_n 1, 1) := by decide +kernel
theorem dX10_comes_9 : decode cX10_comes 9 = .ok (.ldc2_w 261, 3) := by decide +kernel
theorem dX10_comes_12 : decode cX10_comes 12 = .ok (.lcmp, 1) := by decide +kernel
theorem dX10_comes_13 : decode cX10_comes 13 = .ok (.ifCond .ge 8, 3) := by decide +kernel
theorem dX10_comes_16 : decode cX10_comes 16 = .ok (.aload_n 0, 1) := by decide +kernel
theorem dX10_comes_17 : decode cX10_comes 17 = .ok (.iconst 3, 1) := by decide +kernel
theorem dX10_comes_18 : decode cX10_comes 18 = .ok (.putfield 263, 3) := by decide +kernel
theorem dX10_comes_21 : decode cX10_comes 21 = .ok (.aload_n 0, 1) := by decide +kernel
theorem dX10_comes_22 : decode cX10_comes 22 = .ok (.getfield 101, 3) := by decide +kernel
theorem dX10_comes_25 : decode cX10_comes 25 = .ok (.aload_n 0, 1) := by decide +kernel
theorem dX10_comes_26 : decode cX10_comes 26 = .ok (.getfield 266, 3) := by decide +kernel
theorem dX10_comes_29 : decode cX10_comes 29 = .ok (.lload_n 1, 1) := by decide +kernel
theorem dX10_comes_30 : decode cX10_comes 30 = .ok (.lastore, 1) := by decide +kernel
theorem dX10_comes_31 : decode cX10_comes 31 = .ok (.aload_n 0, 1) := by decide +kernel
theorem dX10_comes_32 : decode cX10_comes 32 = .ok (.dup, 1) := by decide +kernel
theorem dX10_comes_33 : decode cX10_comes 33 = .ok (.getfield 266, 3) := by decide +kernel
theorem dX10_comes_36 : decode cX10_comes 36 = .ok (.iconst 1, 1) := by decide +kernel
theorem dX10_comes_37 : decode cX10_comes 37 = .ok (.iadd, 1) := by decide +kernel
theorem dX10_comes_38 : decode cX10_comes 38 = .ok (.putfield 266, 3) := by decide +kernel
theorem dX10_comes_41 : decode cX10_comes 41 = .ok (.return_, 1) := by decide +kernel
theorem dX10_times_0 : decode cX10_times 0 = .ok (.lload_n 1, 1) := by decide +kernel
theorem dX10_times_1 : decode cX10_times 1 = .ok (.lconst 0, 1) := by decide +kernel
theorem dX10_times_2 : decode cX10_times 2 = .ok (.lcmp, 1) := by decide +kernel
theorem dX10_times_3 : decode cX10_times 3 = .ok (.ifCond .ge 8, 3) := by decide +kernel
theorem dX10_times_6 : decode cX10_times 6 = .ok (.lload_n 1, 1) := by decide +kernel
theorem dX10_times_7 : decode cX10_times 7 = .ok (.lneg, 1) := by decide +kernel
theorem dX10_times_8 : decode cX10_times 8 = .ok (.goto 4, 3) := by decide +kernel
theorem dX10_times_11 : decode cX10_times 11 = .ok (.lload_n 1, 1) := by decide +kernel
theorem dX10_times_12 : decode cX10_times 12 = .ok (.lstore 5, 2) := by decide +kernel
theorem dX10_times_14 : decode cX10_times 14 = .ok (.lload_n 3, 1) := by decide +kernel
theorem dX10_times_15 : decode cX10_times 15 = .ok (.lconst 0, 1) := by decide +kernel
theorem dX10_times_16 : decode cX10_times 16 = .ok (.lcmp, 1) := by decide +kernel
theorem dX10_times_17 : decode cX10_times 17 = .ok (.ifCond .ge 8, 3) := by decide +kernel
theorem dX10_times_20 : decode cX10_times 20 = .ok (.lload_n 3, 1) := by decide +kernel
theorem dX10_times_21 : decode cX10_times 21 = .ok (.lneg, 1) := by decide +kernel
theorem dX10_times_22 : decode cX10_times 22 = .ok (.goto 4, 3) := by decide +kernel
theorem dX10_times_25 : decode cX10_times 25 = .ok (.lload_n 3, 1) := by decide +kernel
theorem dX10_times_26 : decode cX10_times 26 = .ok (.lstore 7, 2) := by decide +kernel
theorem dX10_times_28 : decode cX10_times 28 = .ok (.lload 5, 2) := by decide +kernel
theorem dX10_times_30 : decode cX10_times 30 = .ok (.lconst 0, 1) := by decide +kernel
theorem dX10_times_31 : decode cX10_times 31 = .ok (.lcmp, 1) := by decide +kernel
theorem dX10_times_32 : decode cX10_times 32 = .ok (.ifCond .eq 21, 3) := by decide +kernel
theorem dX10_times_35 : decode cX10_times 35 = .ok (.lload 7, 2) := by decide +kernel
theorem dX10_times_37 : decode cX10_times 37 = .ok (.ldc2_w 259, 3) := by decide +kernel
theorem dX10_times_40 : decode cX10_times 40 = .ok (.lload 5, 2) := by decide +kernel
theorem dX10_times_42 : decode cX10_times 42 = .ok (.ldiv, 1) := by decide +kernel
theorem dX10_times_43 : decode cX10_times 43 = .ok (.lcmp, 1) := by decide +kernel
theorem dX10_times_44 : decode cX10_times 44 = .ok (.ifCond .le 9, 3) := by decide +kernel
theorem dX10_times_47 : decode cX10_times 47 = .ok (.aload_n 0, 1) := by decide +kernel
theorem dX10_times_48 : decode cX10_times 48 = .ok (.iconst 3, 1) := by decide +kernel
theorem dX10_times_49 : decode cX10_times 49 = .ok (.putfield 263, 3) := by decide +kernel
theorem dX10_times_52 : decode cX10_times 52 = .ok (.return_, 1) := by decide +kernel
theorem dX10_times_53 : decode cX10_times 53 = .ok (.aload_n 0, 1) := by decide +kernel
theorem dX10_times_54 : decode cX10_times 54 = .ok (.lload_n 1, 1) := by decide +kernel
theorem dX10_times_55 : decode cX10_times 55 = .ok (.lload_n 3, 1) := by decide +kernel
theorem dX10_times_56 : decode cX10_times 56 = .ok (.lmul, 1) := by decide +kernel
theorem dX10_times_57 : decode cX10_times 57 = .ok (.invokevirtual 269, 3) := by decide +kernel
theorem dX10_times_60 : decode cX10_times 60 = .ok (.return_, 1) := by decide +kernel
theorem dX10_parts_0 : decode cX10_parts 0 = .ok (.lload_n 3, 1) := by decide +kernel
theorem dX10_parts_1 : decode cX10_parts 1 = .ok (.lconst 0, 1) := by decide +kernel
theorem dX10_parts_2 : decode cX10_parts 2 = .ok (.lcmp, 1) := by decide +kernel
theorem dX10_parts_3 : decode cX10_parts 3 = .ok (.ifCond .ne 9, 3) := by decide +kernel
theorem dX10_parts_6 : decode cX10_parts 6 = .ok (.aload_n 0, 1) := by decide +kernel
theorem dX10_parts_7 : decode cX10_parts 7 = .ok (.iconst 2, 1) := by decide +kernel
theorem dX10_parts_8 : decode cX10_parts 8 = .ok (.putfield 263, 3) := by decide +kernel
theorem dX10_parts_11 : decode cX10_parts 11 = .ok (.return_, 1) := by decide +kernel
theorem dX10_parts_12 : decode cX10_parts 12 = .ok (.lload_n 1, 1) := by decide +kernel
theorem dX10_parts_13 : decode cX10_parts 13 = .ok (.lload_n 3, 1) := by decide +kernel
theorem dX10_parts_14 : decode cX10_parts 14 = .ok (.ldiv, 1) := by decide +kernel
theorem dX10_parts_15 : decode cX10_parts 15 = .ok (.lstore 5, 2) := by decide +kernel
theorem dX10_parts_17 : decode cX10_parts 17 = .ok (.aload_n 0, 1) := by decide +kernel
theorem dX10_parts_18 : decode cX10_parts 18 = .ok (.lload_n 1, 1) := by decide +kernel
theorem dX10_parts_19 : decode cX10_parts 19 = .ok (.lload_n 3, 1) := by decide +kernel
theorem dX10_parts_20 : decode cX10_parts 20 = .ok (.lrem, 1) := by decide +kernel
theorem dX10_parts_21 : decode cX10_parts 21 = .ok (.lconst 0, 1) := by decide +kernel
theorem dX10_parts_22 : decode cX10_parts 22 = .ok (.lcmp, 1) := by decide +kernel
theorem dX10_parts_23 : decode cX10_parts 23 = .ok (.ifCond .eq 35, 3) := by decide +kernel
theorem dX10_parts_26 : decode cX10_parts 26 = .ok (.lload_n 1, 1) := by decide +kernel
theorem dX10_parts_27 : decode cX10_parts 27 = .ok (.lconst 0, 1) := by decide +kernel
theorem dX10_parts_28 : decode cX10_parts 28 = .ok (.lcmp, 1) := by decide +kernel
theorem dX10_parts_29 : decode cX10_parts 29 = .ok (.ifCond .ge 7, 3) := by decide +kernel
theorem dX10_parts_32 : decode cX10_parts 32 = .ok (.iconst 1, 1) := by decide +kernel
theorem dX10_parts_33 : decode cX10_parts 33 = .ok (.goto 4, 3) := by decide +kernel
theorem dX10_parts_36 : decode cX10_parts 36 = .ok (.iconst 0, 1) := by decide +kernel
theorem dX10_parts_37 : decode cX10_parts 37 = .ok (.lload_n 3, 1) := by decide +kernel
theorem dX10_parts_38 : decode cX10_parts 38 = .ok (.lconst 0, 1) := by decide +kernel
theorem dX10_parts_39 : decode cX10_parts 39 = .ok (.lcmp, 1) := by decide +kernel
theorem dX10_parts_40 : decode cX10_parts 40 = .ok (.ifCond .ge 7, 3) := by decide +kernel
theorem dX10_parts_43 : decode cX10_parts 43 = .ok (.iconst 1, 1) := by decide +kernel
theorem dX10_parts_44 : decode cX10_parts 44 = .ok (.goto 4, 3) := by decide +kernel
theorem dX10_parts_47 : decode cX10_parts 47 = .ok (.iconst 0, 1) := by decide +kernel
theorem dX10_parts_48 : decode cX10_parts 48 = .ok (.if_icmp .eq 10, 3) := by decide +kernel
theorem dX10_parts_51 : decode cX10_parts 51 = .ok (.lload 5, 2) := by decide +kernel
theorem dX10_parts_53 : decode cX10_parts 53 = .ok (.lconst 1, 1) := by decide +kernel
theorem dX10_parts_54 : decode cX10_parts 54 = .ok (.lsub, 1) := by decide +kernel
theorem dX10_parts_55 : decode cX10_parts 55 = .ok (.goto 5, 3) := by decide +kernel
theorem dX10_parts_58 : decode cX10_parts 58 = .ok (.lload 5, 2) := by decide +kernel
theorem dX10_parts_60 : decode cX10_parts 60 = .ok (.invokevirtual 269, 3) := by decide +kernel
theorem dX10_parts_63 : decode cX10_parts 63 = .ok (.return_, 1) := by decide +kernel
theorem dX10_two_0 : decode cX10_two 0 = .ok (.aload_n 0, 1) := by decide +kernel
theorem dX10_two_1 : decode cX10_two 1 = .ok (.dup, 1) := by decide +kernel
theorem dX10_two_2 : decode cX10_two 2 = .ok (.getfield 266, 3) := by decide +kernel
theorem dX10_two_5 : decode cX10_two 5 = .ok (.iconst 2, 1) := by decide +kernel
theorem dX10_two_6 : decode cX10_two 6 = .ok (.isub, 1) := by decide +kernel
theorem dX10_two_7 : decode cX10_two 7 = .ok (.putfield 266, 3) := by decide +kernel
theorem dX10_two_10 : decode cX10_two 10 = .ok (.aload_n 0, 1) := by decide +kernel
theorem dX10_two_11 : decode cX10_two 11 = .ok (.getfield 101, 3) := by decide +kernel
theorem dX10_two_14 : decode cX10_two 14 = .ok (.aload_n 0, 1) := by decide +kernel
theorem dX10_two_15 : decode cX10_two 15 = .ok (.getfield 266, 3) := by decide +kernel
theorem dX10_two_18 : decode cX10_two 18 = .ok (.laload, 1) := by decide +kernel
theorem dX10_two_19 : decode cX10_two 19 = .ok (.lstore_n 2, 1) := by decide +kernel
theorem dX10_two_20 : decode cX10_two 20 = .ok (.aload_n 0, 1) := by decide +kernel
theorem dX10_two_21 : decode cX10_two 21 = .ok (.getfield 101, 3) := by decide +kernel
theorem dX10_two_24 : decode cX10_two 24 = .ok (.aload_n 0, 1) := by decide +kernel
theorem dX10_two_25 : decode cX10_two 25 = .ok (.getfield 266, 3) := by decide +kernel
theorem dX10_two_28 : decode cX10_two 28 = .ok (.iconst 1, 1) := by decide +kernel
theorem dX10_two_29 : decode cX10_two 29 = .ok (.iadd, 1) := by decide +kernel
theorem dX10_two_30 : decode cX10_two 30 = .ok (.laload, 1) := by decide +kernel
theorem dX10_two_31 : decode cX10_two 31 = .ok (.lstore 4, 2) := by decide +kernel
theorem dX10_two_33 : decode cX10_two 33 = .ok (.iload_n 1, 1) := by decide +kernel
theorem dX10_two_34 : decode cX10_two 34 = .ok (.tableswitch 72 4 7 #[30, 41, 52, 62], 30) := by decide +kernel
theorem dX10_two_64 : decode cX10_two 64 = .ok (.aload_n 0, 1) := by decide +kernel
theorem dX10_two_65 : decode cX10_two 65 = .ok (.lload_n 2, 1) := by decide +kernel
theorem dX10_two_66 : decode cX10_two 66 = .ok (.lload 4, 2) := by decide +kernel
theorem dX10_two_68 : decode cX10_two 68 = .ok (.ladd, 1) := by decide +kernel
theorem dX10_two_69 : decode cX10_two 69 = .ok (.invokevirtual 269, 3) := by decide +kernel
theorem dX10_two_72 : decode cX10_two 72 = .ok (.goto 51, 3) := by decide +kernel
theorem dX10_two_75 : decode cX10_two 75 = .ok (.aload_n 0, 1) := by decide +kernel
theorem dX10_two_76 : decode cX10_two 76 = .ok (.lload_n 2, 1) := by decide +kernel
theorem dX10_two_77 : decode cX10_two 77 = .ok (.lload 4, 2) := by decide +kernel
theorem dX10_two_79 : decode cX10_two 79 = .ok (.lsub, 1) := by decide +kernel
theorem dX10_two_80 : decode cX10_two 80 = .ok (.invokevirtual 269, 3) := by decide +kernel
theorem dX10_two_83 : decode cX10_two 83 = .ok (.goto 40, 3) := by decide +kernel
theorem dX10_two_86 : decode cX10_two 86 = .ok (.aload_n 0, 1) := by decide +kernel
theorem dX10_two_87 : decode cX10_two 87 = .ok (.lload_n 2, 1) := by decide +kernel
theorem dX10_two_88 : decode cX10_two 88 = .ok (.lload 4, 2) := by decide +kernel
theorem dX10_two_90 : decode cX10_two 90 = .ok (.invokevirtual 273, 3) := by decide +kernel
theorem dX10_two_93 : decode cX10_two 93 = .ok (.goto 30, 3) := by decide +kernel
theorem dX10_two_96 : decode cX10_two 96 = .ok (.aload_n 0, 1) := by decide +kernel
theorem dX10_two_97 : decode cX10_two 97 = .ok (.lload_n 2, 1) := by decide +kernel
theorem dX10_two_98 : decode cX10_two 98 = .ok (.lload 4, 2) := by decide +kernel
theorem dX10_two_100 : decode cX10_two 100 = .ok (.invokevirtual 277, 3) := by decide +kernel
theorem dX10_two_103 : decode cX10_two 103 = .ok (.goto 20, 3) := by decide +kernel
theorem dX10_two_106 : decode cX10_two 106 = .ok (.aload_n 0, 1) := by decide +kernel
theorem dX10_two_107 : decode cX10_two 107 = .ok (.lload_n 2, 1) := by decide +kernel
theorem dX10_two_108 : decode cX10_two 108 = .ok (.lload 4, 2) := by decide +kernel
theorem dX10_two_110 : decode cX10_two 110 = .ok (.lcmp, 1) := by decide +kernel
theorem dX10_two_111 : decode cX10_two 111 = .ok (.ifCond .le 7, 3) := by decide +kernel
theorem dX10_two_114 : decode cX10_two 114 = .ok (.lload_n 2, 1) := by decide +kernel
theorem dX10_two_115 : decode cX10_two 115 = .ok (.goto 5, 3) := by decide +kernel
theorem dX10_two_118 : decode cX10_two 118 = .ok (.lload 4, 2) := by decide +kernel
theorem dX10_two_120 : decode cX10_two 120 = .ok (.invokevirtual 269, 3) := by decide +kernel
theorem dX10_two_123 : decode cX10_two 123 = .ok (.return_, 1) := by decide +kernel
theorem dX10_names_0 : decode cX10_names 0 = .ok (.aload_n 0, 1) := by decide +kernel
theorem dX10_names_1 : decode cX10_names 1 = .ok (.aload_n 0, 1) := by decide +kernel
theorem dX10_names_2 : decode cX10_names 2 = .ok (.getfield 98, 3) := by decide +kernel
theorem dX10_names_5 : decode cX10_names 5 = .ok (.iload_n 1, 1) := by decide +kernel
theorem dX10_names_6 : decode cX10_names 6 = .ok (.iaload, 1) := by decide +kernel
theorem dX10_names_7 : decode cX10_names 7 = .ok (.putfield 263, 3) := by decide +kernel
theorem dX10_names_10 : decode cX10_names 10 = .ok (.aload_n 0, 1) := by decide +kernel
theorem dX10_names_11 : decode cX10_names 11 = .ok (.getfield 101, 3) := by decide +kernel
theorem dX10_names_14 : decode cX10_names 14 = .ok (.aload_n 0, 1) := by decide +kernel
theorem dX10_names_15 : decode cX10_names 15 = .ok (.getfield 266, 3) := by decide +kernel
theorem dX10_names_18 : decode cX10_names 18 = .ok (.aload_n 0, 1) := by decide +kernel
theorem dX10_names_19 : decode cX10_names 19 = .ok (.getfield 95, 3) := by decide +kernel
theorem dX10_names_22 : decode cX10_names 22 = .ok (.iload_n 1, 1) := by decide +kernel
theorem dX10_names_23 : decode cX10_names 23 = .ok (.laload, 1) := by decide +kernel
theorem dX10_names_24 : decode cX10_names 24 = .ok (.lastore, 1) := by decide +kernel
theorem dX10_names_25 : decode cX10_names 25 = .ok (.aload_n 0, 1) := by decide +kernel
theorem dX10_names_26 : decode cX10_names 26 = .ok (.dup, 1) := by decide +kernel
theorem dX10_names_27 : decode cX10_names 27 = .ok (.getfield 266, 3) := by decide +kernel
theorem dX10_names_30 : decode cX10_names 30 = .ok (.iconst 1, 1) := by decide +kernel
theorem dX10_names_31 : decode cX10_names 31 = .ok (.iadd, 1) := by decide +kernel
theorem dX10_names_32 : decode cX10_names 32 = .ok (.putfield 266, 3) := by decide +kernel
theorem dX10_names_35 : decode cX10_names 35 = .ok (.return_, 1) := by decide +kernel
theorem dX10_range_0 : decode cX10_range 0 = .ok (.lconst 0, 1) := by decide +kernel
theorem dX10_range_1 : decode cX10_range 1 = .ok (.lstore_n 3, 1) := by decide +kernel
theorem dX10_range_2 : decode cX10_range 2 = .ok (.iconst 0, 1) := by decide +kernel
theorem dX10_range_3 : decode cX10_range 3 = .ok (.istore 5, 2) := by decide +kernel
theorem dX10_range_5 : decode cX10_range 5 = .ok (.iload 5, 2) := by decide +kernel
theorem dX10_range_7 : decode cX10_range 7 = .ok (.bipush 64, 2) := by decide +kernel
theorem dX10_range_9 : decode cX10_range 9 = .ok (.if_icmp .ge 78, 3) := by decide +kernel
theorem dX10_range_12 : decode cX10_range 12 = .ok (.aload_n 0, 1) := by decide +kernel
theorem dX10_range_13 : decode cX10_range 13 = .ok (.getfield 263, 3) := by decide +kernel
theorem dX10_range_16 : decode cX10_range 16 = .ok (.ifCond .ne 71, 3) := by decide +kernel
theorem dX10_range_19 : decode cX10_range 19 = .ok (.iload 5, 2) := by decide +kernel
theorem dX10_range_21 : decode cX10_range 21 = .ok (.iload_n 1, 1) := by decide +kernel
theorem dX10_range_22 : decode cX10_range 22 = .ok (.iload_n 2, 1) := by decide +kernel
theorem dX10_range_23 : decode cX10_range 23 = .ok (.invokestatic 239, 3) := by decide +kernel
theorem dX10_range_26 : decode cX10_range 26 = .ok (.ifCond .ne 6, 3) := by decide +kernel
theorem dX10_range_29 : decode cX10_range 29 = .ok (.goto 52, 3) := by decide +kernel
theorem dX10_range_32 : decode cX10_range 32 = .ok (.aload_n 0, 1) := by decide +kernel
theorem dX10_range_33 : decode cX10_range 33 = .ok (.aload_n 0, 1) := by decide +kernel
theorem dX10_range_34 : decode cX10_range 34 = .ok (.getfield 98, 3) := by decide +kernel
theorem dX10_range_37 : decode cX10_range 37 = .ok (.iload 5, 2) := by decide +kernel
theorem dX10_range_39 : decode cX10_range 39 = .ok (.iaload, 1) := by decide +kernel
theorem dX10_range_40 : decode cX10_range 40 = .ok (.putfield 263, 3) := by decide +kernel
theorem dX10_range_43 : decode cX10_range 43 = .ok (.lload_n 3, 1) := by decide +kernel
theorem dX10_range_44 : decode cX10_range 44 = .ok (.aload_n 0, 1) := by decide +kernel
theorem dX10_range_45 : decode cX10_range 45 = .ok (.getfield 95, 3) := by decide +kernel
theorem dX10_range_48 : decode cX10_range 48 = .ok (.iload 5, 2) := by decide +kernel
theorem dX10_range_50 : decode cX10_range 50 = .ok (.laload, 1) := by decide +kernel
theorem dX10_range_51 : decode cX10_range 51 = .ok (.ladd, 1) := by decide +kernel
theorem dX10_range_52 : decode cX10_range 52 = .ok (.lstore_n 3, 1) := by decide +kernel
theorem dX10_range_53 : decode cX10_range 53 = .ok (.aload_n 0, 1) := by decide +kernel
theorem dX10_range_54 : decode cX10_range 54 = .ok (.getfield 263, 3) := by decide +kernel
theorem dX10_range_57 : decode cX10_range 57 = .ok (.ifCond .ne 24, 3) := by decide +kernel
theorem dX10_range_60 : decode cX10_range 60 = .ok (.lload_n 3, 1) := by decide +kernel
theorem dX10_range_61 : decode cX10_range 61 = .ok (.ldc2_w 259, 3) := by decide +kernel
theorem dX10_range_64 : decode cX10_range 64 = .ok (.lcmp, 1) := by decide +kernel
theorem dX10_range_65 : decode cX10_range 65 = .ok (.ifCond .gt 11, 3) := by decide +kernel
theorem dX10_range_68 : decode cX10_range 68 = .ok (.lload_n 3, 1) := by decide +kernel
theorem dX10_range_69 : decode cX10_range 69 = .ok (.ldc2_w 261, 3) := by decide +kernel
theorem dX10_range_72 : decode cX10_range 72 = .ok (.lcmp, 1) := by decide +kernel
theorem dX10_range_73 : decode cX10_range 73 = .ok (.ifCond .ge 8, 3) := by decide +kernel
theorem dX10_range_76 : decode cX10_range 76 = .ok (.aload_n 0, 1) := by decide +kernel
theorem dX10_range_77 : decode cX10_range 77 = .ok (.iconst 3, 1) := by decide +kernel
theorem dX10_range_78 : decode cX10_range 78 = .ok (.putfield 263, 3) := by decide +kernel
theorem dX10_range_81 : decode cX10_range 81 = .ok (.iinc 5 1, 3) := by decide +kernel
theorem dX10_range_84 : decode cX10_range 84 = .ok (.goto (-79), 3) := by decide +kernel
theorem dX10_range_87 : decode cX10_range 87 = .ok (.aload_n 0, 1) := by decide +kernel
theorem dX10_range_88 : decode cX10_range 88 = .ok (.getfield 101, 3) := by decide +kernel
theorem dX10_range_91 : decode cX10_range 91 = .ok (.aload_n 0, 1) := by decide +kernel
theorem dX10_range_92 : decode cX10_range 92 = .ok (.getfield 266, 3) := by decide +kernel
theorem dX10_range_95 : decode cX10_range 95 = .ok (.lload_n 3, 1) := by decide +kernel
theorem dX10_range_96 : decode cX10_range 96 = .ok (.lastore, 1) := by decide +kernel
theorem dX10_range_97 : decode cX10_range 97 = .ok (.aload_n 0, 1) := by decide +kernel
theorem dX10_range_98 : decode cX10_range 98 = .ok (.dup, 1) := by decide +kernel
theorem dX10_range_99 : decode cX10_range 99 = .ok (.getfield 266, 3) := by decide +kernel
theorem dX10_range_102 : decode cX10_range 102 = .ok (.iconst 1, 1) := by decide +kernel
theorem dX10_range_103 : decode cX10_range 103 = .ok (.iadd, 1) := by decide +kernel
theorem dX10_range_104 : decode cX10_range 104 = .ok (.putfield 266, 3) := by decide +kernel
theorem dX10_range_107 : decode cX10_range 107 = .ok (.return_, 1) := by decide +kernel
theorem dX10_reckons_0 : decode cX10_reckons 0 = .ok (.aload_n 0, 1) := by decide +kernel
theorem dX10_reckons_1 : decode cX10_reckons 1 = .ok (.iconst 0, 1) := by decide +kernel
theorem dX10_reckons_2 : decode cX10_reckons 2 = .ok (.putfield 266, 3) := by decide +kernel
theorem dX10_reckons_5 : decode cX10_reckons 5 = .ok (.aload_n 0, 1) := by decide +kernel
theorem dX10_reckons_6 : decode cX10_reckons 6 = .ok (.iconst 0, 1) := by decide +kernel
theorem dX10_reckons_7 : decode cX10_reckons 7 = .ok (.putfield 263, 3) := by decide +kernel
theorem dX10_reckons_10 : decode cX10_reckons 10 = .ok (.iconst 0, 1) := by decide +kernel
theorem dX10_reckons_11 : decode cX10_reckons 11 = .ok (.istore_n 2, 1) := by decide +kernel
theorem dX10_reckons_12 : decode cX10_reckons 12 = .ok (.iload_n 2, 1) := by decide +kernel
theorem dX10_reckons_13 : decode cX10_reckons 13 = .ok (.aload_n 0, 1) := by decide +kernel
theorem dX10_reckons_14 : decode cX10_reckons 14 = .ok (.getfield 26, 3) := by decide +kernel
theorem dX10_reckons_17 : decode cX10_reckons 17 = .ok (.iload_n 1, 1) := by decide +kernel
theorem dX10_reckons_18 : decode cX10_reckons 18 = .ok (.iaload, 1) := by decide +kernel
theorem dX10_reckons_19 : decode cX10_reckons 19 = .ok (.if_icmp .ge 120, 3) := by decide +kernel
theorem dX10_reckons_22 : decode cX10_reckons 22 = .ok (.aload_n 0, 1) := by decide +kernel
theorem dX10_reckons_23 : decode cX10_reckons 23 = .ok (.getfield 263, 3) := by decide +kernel
theorem dX10_reckons_26 : decode cX10_reckons 26 = .ok (.ifCond .ne 113, 3) := by decide +kernel
theorem dX10_reckons_29 : decode cX10_reckons 29 = .ok (.aload_n 0, 1) := by decide +kernel
theorem dX10_reckons_30 : decode cX10_reckons 30 = .ok (.iload_n 1, 1) := by decide +kernel
theorem dX10_reckons_31 : decode cX10_reckons 31 = .ok (.iload_n 2, 1) := by decide +kernel
theorem dX10_reckons_32 : decode cX10_reckons 32 = .ok (.invokevirtual 229, 3) := by decide +kernel
theorem dX10_reckons_35 : decode cX10_reckons 35 = .ok (.istore_n 3, 1) := by decide +kernel
theorem dX10_reckons_36 : decode cX10_reckons 36 = .ok (.iload_n 3, 1) := by decide +kernel
theorem dX10_reckons_37 : decode cX10_reckons 37 = .ok (.ifCond .ne 17, 3) := by decide +kernel
theorem dX10_reckons_40 : decode cX10_reckons 40 = .ok (.aload_n 0, 1) := by decide +kernel
theorem dX10_reckons_41 : decode cX10_reckons 41 = .ok (.aload_n 0, 1) := by decide +kernel
theorem dX10_reckons_42 : decode cX10_reckons 42 = .ok (.iload_n 1, 1) := by decide +kernel
theorem dX10_reckons_43 : decode cX10_reckons 43 = .ok (.iload_n 2, 1) := by decide +kernel
theorem dX10_reckons_44 : decode cX10_reckons 44 = .ok (.invokevirtual 233, 3) := by decide +kernel
theorem dX10_reckons_47 : decode cX10_reckons 47 = .ok (.i2l, 1) := by decide +kernel
theorem dX10_reckons_48 : decode cX10_reckons 48 = .ok (.invokevirtual 269, 3) := by decide +kernel
theorem dX10_reckons_51 : decode cX10_reckons 51 = .ok (.goto 82, 3) := by decide +kernel
theorem dX10_reckons_54 : decode cX10_reckons 54 = .ok (.iload_n 3, 1) := by decide +kernel
theorem dX10_reckons_55 : decode cX10_reckons 55 = .ok (.iconst 1, 1) := by decide +kernel
theorem dX10_reckons_56 : decode cX10_reckons 56 = .ok (.if_icmp .ne 16, 3) := by decide +kernel
theorem dX10_reckons_59 : decode cX10_reckons 59 = .ok (.aload_n 0, 1) := by decide +kernel
theorem dX10_reckons_60 : decode cX10_reckons 60 = .ok (.aload_n 0, 1) := by decide +kernel
theorem dX10_reckons_61 : decode cX10_reckons 61 = .ok (.iload_n 1, 1) := by decide +kernel
theorem dX10_reckons_62 : decode cX10_reckons 62 = .ok (.iload_n 2, 1) := by decide +kernel
theorem dX10_reckons_63 : decode cX10_reckons 63 = .ok (.invokevirtual 233, 3) := by decide +kernel
theorem dX10_reckons_66 : decode cX10_reckons 66 = .ok (.invokevirtual 280, 3) := by decide +kernel
theorem dX10_reckons_69 : decode cX10_reckons 69 = .ok (.goto 64, 3) := by decide +kernel
theorem dX10_reckons_72 : decode cX10_reckons 72 = .ok (.iload_n 3, 1) := by decide +kernel
theorem dX10_reckons_73 : decode cX10_reckons 73 = .ok (.iconst 2, 1) := by decide +kernel
theorem dX10_reckons_74 : decode cX10_reckons 74 = .ok (.if_icmp .ne 22, 3) := by decide +kernel
theorem dX10_reckons_77 : decode cX10_reckons 77 = .ok (.aload_n 0, 1) := by decide +kernel
theorem dX10_reckons_78 : decode cX10_reckons 78 = .ok (.aload_n 0, 1) := by decide +kernel
theorem dX10_reckons_79 : decode cX10_reckons 79 = .ok (.iload_n 1, 1) := by decide +kernel
theorem dX10_reckons_80 : decode cX10_reckons 80 = .ok (.iload_n 2, 1) := by decide +kernel
theorem dX10_reckons_81 : decode cX10_reckons 81 = .ok (.invokevirtual 233, 3) := by decide +kernel
theorem dX10_reckons_84 : decode cX10_reckons 84 = .ok (.aload_n 0, 1) := by decide +kernel
theorem dX10_reckons_85 : decode cX10_reckons 85 = .ok (.iload_n 1, 1) := by decide +kernel
theorem dX10_reckons_86 : decode cX10_reckons 86 = .ok (.iload_n 2, 1) := by decide +kernel
theorem dX10_reckons_87 : decode cX10_reckons 87 = .ok (.invokevirtual 236, 3) := by decide +kernel
theorem dX10_reckons_90 : decode cX10_reckons 90 = .ok (.invokevirtual 283, 3) := by decide +kernel
theorem dX10_reckons_93 : decode cX10_reckons 93 = .ok (.goto 40, 3) := by decide +kernel
theorem dX10_reckons_96 : decode cX10_reckons 96 = .ok (.iload_n 3, 1) := by decide +kernel
theorem dX10_reckons_97 : decode cX10_reckons 97 = .ok (.iconst 3, 1) := by decide +kernel
theorem dX10_reckons_98 : decode cX10_reckons 98 = .ok (.if_icmp .ne 30, 3) := by decide +kernel
theorem dX10_reckons_101 : decode cX10_reckons 101 = .ok (.aload_n 0, 1) := by decide +kernel
theorem dX10_reckons_102 : decode cX10_reckons 102 = .ok (.dup, 1) := by decide +kernel
theorem dX10_reckons_103 : decode cX10_reckons 103 = .ok (.getfield 266, 3) := by decide +kernel
theorem dX10_reckons_106 : decode cX10_reckons 106 = .ok (.iconst 1, 1) := by decide +kernel
theorem dX10_reckons_107 : decode cX10_reckons 107 = .ok (.isub, 1) := by decide +kernel
theorem dX10_reckons_108 : decode cX10_reckons 108 = .ok (.putfield 266, 3) := by decide +kernel
theorem dX10_reckons_111 : decode cX10_reckons 111 = .ok (.aload_n 0, 1) := by decide +kernel
theorem dX10_reckons_112 : decode cX10_reckons 112 = .ok (.aload_n 0, 1) := by decide +kernel
theorem dX10_reckons_113 : decode cX10_reckons 113 = .ok (.getfield 101, 3) := by decide +kernel
theorem dX10_reckons_116 : decode cX10_reckons 116 = .ok (.aload_n 0, 1) := by decide +kernel
theorem dX10_reckons_117 : decode cX10_reckons 117 = .ok (.getfield 266, 3) := by decide +kernel
theorem dX10_reckons_120 : decode cX10_reckons 120 = .ok (.laload, 1) := by decide +kernel
theorem dX10_reckons_121 : decode cX10_reckons 121 = .ok (.lneg, 1) := by decide +kernel
theorem dX10_reckons_122 : decode cX10_reckons 122 = .ok (.invokevirtual 269, 3) := by decide +kernel
theorem dX10_reckons_125 : decode cX10_reckons 125 = .ok (.goto 8, 3) := by decide +kernel
theorem dX10_reckons_128 : decode cX10_reckons 128 = .ok (.aload_n 0, 1) := by decide +kernel
theorem dX10_reckons_129 : decode cX10_reckons 129 = .ok (.iload_n 3, 1) := by decide +kernel
theorem dX10_reckons_130 : decode cX10_reckons 130 = .ok (.invokevirtual 286, 3) := by decide +kernel
theorem dX10_reckons_133 : decode cX10_reckons 133 = .ok (.iinc 2 1, 3) := by decide +kernel
theorem dX10_reckons_136 : decode cX10_reckons 136 = .ok (.goto (-124), 3) := by decide +kernel
theorem dX10_reckons_139 : decode cX10_reckons 139 = .ok (.return_, 1) := by decide +kernel
theorem dX10_works_0 : decode cX10_works 0 = .ok (.iconst 0, 1) := by decide +kernel
theorem dX10_works_1 : decode cX10_works 1 = .ok (.istore 5, 2) := by decide +kernel
theorem dX10_works_3 : decode cX10_works 3 = .ok (.iload 5, 2) := by decide +kernel
theorem dX10_works_5 : decode cX10_works 5 = .ok (.aload_n 0, 1) := by decide +kernel
theorem dX10_works_6 : decode cX10_works 6 = .ok (.getfield 254, 3) := by decide +kernel
theorem dX10_works_9 : decode cX10_works 9 = .ok (.if_icmp .ge 210, 3) := by decide +kernel
theorem dX10_works_12 : decode cX10_works 12 = .ok (.aload_n 0, 1) := by decide +kernel
theorem dX10_works_13 : decode cX10_works 13 = .ok (.getfield 89, 3) := by decide +kernel
theorem dX10_works_16 : decode cX10_works 16 = .ok (.iload 5, 2) := by decide +kernel
theorem dX10_works_18 : decode cX10_works 18 = .ok (.iaload, 1) := by decide +kernel
theorem dX10_works_19 : decode cX10_works 19 = .ok (.istore 6, 2) := by decide +kernel
theorem dX10_works_21 : decode cX10_works 21 = .ok (.bipush 64, 2) := by decide +kernel
theorem dX10_works_23 : decode cX10_works 23 = .ok (.iload_n 1, 1) := by decide +kernel
theorem dX10_works_24 : decode cX10_works 24 = .ok (.imul, 1) := by decide +kernel
theorem dX10_works_25 : decode cX10_works 25 = .ok (.iload 6, 2) := by decide +kernel
theorem dX10_works_27 : decode cX10_works 27 = .ok (.iadd, 1) := by decide +kernel
theorem dX10_works_28 : decode cX10_works 28 = .ok (.istore 7, 2) := by decide +kernel
theorem dX10_works_30 : decode cX10_works 30 = .ok (.aload_n 0, 1) := by decide +kernel
theorem dX10_works_31 : decode cX10_works 31 = .ok (.getfield 98, 3) := by decide +kernel
theorem dX10_works_34 : decode cX10_works 34 = .ok (.iload 6, 2) := by decide +kernel
theorem dX10_works_36 : decode cX10_works 36 = .ok (.iconst 0, 1) := by decide +kernel
theorem dX10_works_37 : decode cX10_works 37 = .ok (.iastore, 1) := by decide +kernel
theorem dX10_works_38 : decode cX10_works 38 = .ok (.aload_n 0, 1) := by decide +kernel
theorem dX10_works_39 : decode cX10_works 39 = .ok (.getfield 95, 3) := by decide +kernel
theorem dX10_works_42 : decode cX10_works 42 = .ok (.iload 6, 2) := by decide +kernel
theorem dX10_works_44 : decode cX10_works 44 = .ok (.lconst 0, 1) := by decide +kernel
theorem dX10_works_45 : decode cX10_works 45 = .ok (.lastore, 1) := by decide +kernel
theorem dX10_works_46 : decode cX10_works 46 = .ok (.aload_n 0, 1) := by decide +kernel
theorem dX10_works_47 : decode cX10_works 47 = .ok (.getfield 48, 3) := by decide +kernel
theorem dX10_works_50 : decode cX10_works 50 = .ok (.iload 6, 2) := by decide +kernel
theorem dX10_works_52 : decode cX10_works 52 = .ok (.baload, 1) := by decide +kernel
theorem dX10_works_53 : decode cX10_works 53 = .ok (.ifCond .eq 26, 3) := by decide +kernel
theorem dX10_works_56 : decode cX10_works 56 = .ok (.aload_n 0, 1) := by decide +kernel
theorem dX10_works_57 : decode cX10_works 57 = .ok (.getfield 95, 3) := by decide +kernel
theorem dX10_works_60 : decode cX10_works 60 = .ok (.iload 6, 2) := by decide +kernel
theorem dX10_works_62 : decode cX10_works 62 = .ok (.aload_n 0, 1) := by decide +kernel
theorem dX10_works_63 : decode cX10_works 63 = .ok (.getfield 55, 3) := by decide +kernel
theorem dX10_works_66 : decode cX10_works 66 = .ok (.bipush 64, 2) := by decide +kernel
theorem dX10_works_68 : decode cX10_works 68 = .ok (.iload_n 3, 1) := by decide +kernel
theorem dX10_works_69 : decode cX10_works 69 = .ok (.imul, 1) := by decide +kernel
theorem dX10_works_70 : decode cX10_works 70 = .ok (.iload 6, 2) := by decide +kernel
theorem dX10_works_72 : decode cX10_works 72 = .ok (.iadd, 1) := by decide +kernel
theorem dX10_works_73 : decode cX10_works 73 = .ok (.iaload, 1) := by decide +kernel
theorem dX10_works_74 : decode cX10_works 74 = .ok (.i2l, 1) := by decide +kernel
theorem dX10_works_75 : decode cX10_works 75 = .ok (.lastore, 1) := by decide +kernel
theorem dX10_works_76 : decode cX10_works 76 = .ok (.goto 137, 3) := by decide +kernel
theorem dX10_works_79 : decode cX10_works 79 = .ok (.aload_n 0, 1) := by decide +kernel
theorem dX10_works_80 : decode cX10_works 80 = .ok (.iload 6, 2) := by decide +kernel
theorem dX10_works_82 : decode cX10_works 82 = .ok (.iload_n 2, 1) := by decide +kernel
theorem dX10_works_83 : decode cX10_works 83 = .ok (.iload 4, 2) := by decide +kernel
theorem dX10_works_85 : decode cX10_works 85 = .ok (.invokevirtual 246, 3) := by decide +kernel
theorem dX10_works_88 : decode cX10_works 88 = .ok (.ifCond .eq 44, 3) := by decide +kernel
theorem dX10_works_91 : decode cX10_works 91 = .ok (.aload_n 0, 1) := by decide +kernel
theorem dX10_works_92 : decode cX10_works 92 = .ok (.getfield 95, 3) := by decide +kernel
theorem dX10_works_95 : decode cX10_works 95 = .ok (.iload 6, 2) := by decide +kernel
theorem dX10_works_97 : decode cX10_works 97 = .ok (.aload_n 0, 1) := by decide +kernel
theorem dX10_works_98 : decode cX10_works 98 = .ok (.getfield 58, 3) := by decide +kernel
theorem dX10_works_101 : decode cX10_works 101 = .ok (.bipush 64, 2) := by decide +kernel
theorem dX10_works_103 : decode cX10_works 103 = .ok (.iload_n 3, 1) := by decide +kernel
theorem dX10_works_104 : decode cX10_works 104 = .ok (.imul, 1) := by decide +kernel
theorem dX10_works_105 : decode cX10_works 105 = .ok (.iload 6, 2) := by decide +kernel
theorem dX10_works_107 : decode cX10_works 107 = .ok (.iadd, 1) := by decide +kernel
theorem dX10_works_108 : decode cX10_works 108 = .ok (.laload, 1) := by decide +kernel
theorem dX10_works_109 : decode cX10_works 109 = .ok (.lastore, 1) := by decide +kernel
theorem dX10_works_110 : decode cX10_works 110 = .ok (.aload_n 0, 1) := by decide +kernel
theorem dX10_works_111 : decode cX10_works 111 = .ok (.getfield 98, 3) := by decide +kernel
theorem dX10_works_114 : decode cX10_works 114 = .ok (.iload 6, 2) := by decide +kernel
theorem dX10_works_116 : decode cX10_works 116 = .ok (.aload_n 0, 1) := by decide +kernel
theorem dX10_works_117 : decode cX10_works 117 = .ok (.getfield 61, 3) := by decide +kernel
theorem dX10_works_120 : decode cX10_works 120 = .ok (.bipush 64, 2) := by decide +kernel
theorem dX10_works_122 : decode cX10_works 122 = .ok (.iload_n 3, 1) := by decide +kernel
theorem dX10_works_123 : decode cX10_works 123 = .ok (.imul, 1) := by decide +kernel
theorem dX10_works_124 : decode cX10_works 124 = .ok (.iload 6, 2) := by decide +kernel
theorem dX10_works_126 : decode cX10_works 126 = .ok (.iadd, 1) := by decide +kernel
theorem dX10_works_127 : decode cX10_works 127 = .ok (.iaload, 1) := by decide +kernel
theorem dX10_works_128 : decode cX10_works 128 = .ok (.iastore, 1) := by decide +kernel
theorem dX10_works_129 : decode cX10_works 129 = .ok (.goto 84, 3) := by decide +kernel
theorem dX10_works_132 : decode cX10_works 132 = .ok (.aload_n 0, 1) := by decide +kernel
theorem dX10_works_133 : decode cX10_works 133 = .ok (.getfield 13, 3) := by decide +kernel
theorem dX10_works_136 : decode cX10_works 136 = .ok (.iload 7, 2) := by decide +kernel
theorem dX10_works_138 : decode cX10_works 138 = .ok (.iaload, 1) := by decide +kernel
theorem dX10_works_139 : decode cX10_works 139 = .ok (.iconst 1, 1) := by decide +kernel
theorem dX10_works_140 : decode cX10_works 140 = .ok (.if_icmp .ne 21, 3) := by decide +kernel
theorem dX10_works_143 : decode cX10_works 143 = .ok (.aload_n 0, 1) := by decide +kernel
theorem dX10_works_144 : decode cX10_works 144 = .ok (.getfield 95, 3) := by decide +kernel
theorem dX10_works_147 : decode cX10_works 147 = .ok (.iload 6, 2) := by decide +kernel
theorem dX10_works_149 : decode cX10_works 149 = .ok (.aload_n 0, 1) := by decide +kernel
theorem dX10_works_150 : decode cX10_works 150 = .ok (.getfield 17, 3) := by decide +kernel
theorem dX10_works_153 : decode cX10_works 153 = .ok (.iload 7, 2) := by decide +kernel
theorem dX10_works_155 : decode cX10_works 155 = .ok (.iaload, 1) := by decide +kernel
theorem dX10_works_156 : decode cX10_works 156 = .ok (.i2l, 1) := by decide +kernel
theorem dX10_works_157 : decode cX10_works 157 = .ok (.lastore, 1) := by decide +kernel
theorem dX10_works_158 : decode cX10_works 158 = .ok (.goto 55, 3) := by decide +kernel
theorem dX10_works_161 : decode cX10_works 161 = .ok (.aload_n 0, 1) := by decide +kernel
theorem dX10_works_162 : decode cX10_works 162 = .ok (.getfield 13, 3) := by decide +kernel
theorem dX10_works_165 : decode cX10_works 165 = .ok (.iload 7, 2) := by decide +kernel
theorem dX10_works_167 : decode cX10_works 167 = .ok (.iaload, 1) := by decide +kernel
theorem dX10_works_168 : decode cX10_works 168 = .ok (.iconst 2, 1) := by decide +kernel
theorem dX10_works_169 : decode cX10_works 169 = .ok (.if_icmp .ne 44, 3) := by decide +kernel
theorem dX10_works_172 : decode cX10_works 172 = .ok (.aload_n 0, 1) := by decide +kernel
theorem dX10_works_173 : decode cX10_works 173 = .ok (.iload 7, 2) := by decide +kernel
theorem dX10_works_175 : decode cX10_works 175 = .ok (.invokevirtual 289, 3) := by decide +kernel
theorem dX10_works_178 : decode cX10_works 178 = .ok (.aload_n 0, 1) := by decide +kernel
theorem dX10_works_179 : decode cX10_works 179 = .ok (.getfield 98, 3) := by decide +kernel
theorem dX10_works_182 : decode cX10_works 182 = .ok (.iload 6, 2) := by decide +kernel
theorem dX10_works_184 : decode cX10_works 184 = .ok (.aload_n 0, 1) := by decide +kernel
theorem dX10_works_185 : decode cX10_works 185 = .ok (.getfield 263, 3) := by decide +kernel
theorem dX10_works_188 : decode cX10_works 188 = .ok (.iastore, 1) := by decide +kernel
theorem dX10_works_189 : decode cX10_works 189 = .ok (.aload_n 0, 1) := by decide +kernel
theorem dX10_works_190 : decode cX10_works 190 = .ok (.getfield 95, 3) := by decide +kernel
theorem dX10_works_193 : decode cX10_works 193 = .ok (.iload 6, 2) := by decide +kernel
theorem dX10_works_195 : decode cX10_works 195 = .ok (.aload_n 0, 1) := by decide +kernel
theorem dX10_works_196 : decode cX10_works 196 = .ok (.getfield 263, 3) := by decide +kernel
theorem dX10_works_199 : decode cX10_works 199 = .ok (.ifCond .ne 12, 3) := by decide +kernel
theorem dX10_works_202 : decode cX10_works 202 = .ok (.aload_n 0, 1) := by decide +kernel
theorem dX10_works_203 : decode cX10_works 203 = .ok (.getfield 101, 3) := by decide +kernel
theorem dX10_works_206 : decode cX10_works 206 = .ok (.iconst 0, 1) := by decide +kernel
theorem dX10_works_207 : decode cX10_works 207 = .ok (.laload, 1) := by decide +kernel
theorem dX10_works_208 : decode cX10_works 208 = .ok (.goto 4, 3) := by decide +kernel
theorem dX10_works_211 : decode cX10_works 211 = .ok (.lconst 0, 1) := by decide +kernel
theorem dX10_works_212 : decode cX10_works 212 = .ok (.lastore, 1) := by decide +kernel
theorem dX10_works_213 : decode cX10_works 213 = .ok (.iinc 5 1, 3) := by decide +kernel
theorem dX10_works_216 : decode cX10_works 216 = .ok (.goto (-213), 3) := by decide +kernel
theorem dX10_works_219 : decode cX10_works 219 = .ok (.return_, 1) := by decide +kernel
theorem dX10_tells_0 : decode cX10_tells 0 = .ok (.iload 4, 2) := by decide +kernel
theorem dX10_tells_2 : decode cX10_tells 2 = .ok (.ifCond .eq 7, 3) := by decide +kernel
theorem dX10_tells_5 : decode cX10_tells 5 = .ok (.aload_n 0, 1) := by decide +kernel
theorem dX10_tells_6 : decode cX10_tells 6 = .ok (.invokevirtual 292, 3) := by decide +kernel
theorem dX10_tells_9 : decode cX10_tells 9 = .ok (.aload_n 0, 1) := by decide +kernel
theorem dX10_tells_10 : decode cX10_tells 10 = .ok (.iload_n 1, 1) := by decide +kernel
theorem dX10_tells_11 : decode cX10_tells 11 = .ok (.iload_n 2, 1) := by decide +kernel
theorem dX10_tells_12 : decode cX10_tells 12 = .ok (.iload 4, 2) := by decide +kernel
theorem dX10_tells_14 : decode cX10_tells 14 = .ok (.invokevirtual 295, 3) := by decide +kernel
theorem dX10_tells_17 : decode cX10_tells 17 = .ok (.istore 5, 2) := by decide +kernel
theorem dX10_tells_19 : decode cX10_tells 19 = .ok (.iload 5, 2) := by decide +kernel
theorem dX10_tells_21 : decode cX10_tells 21 = .ok (.ifCond .eq 12, 3) := by decide +kernel
theorem dX10_tells_24 : decode cX10_tells 24 = .ok (.aload_n 0, 1) := by decide +kernel
theorem dX10_tells_25 : decode cX10_tells 25 = .ok (.iload_n 1, 1) := by decide +kernel
theorem dX10_tells_26 : decode cX10_tells 26 = .ok (.iload_n 2, 1) := by decide +kernel
theorem dX10_tells_27 : decode cX10_tells 27 = .ok (.iload_n 3, 1) := by decide +kernel
theorem dX10_tells_28 : decode cX10_tells 28 = .ok (.iload 4, 2) := by decide +kernel
theorem dX10_tells_30 : decode cX10_tells 30 = .ok (.invokevirtual 298, 3) := by decide +kernel
theorem dX10_tells_33 : decode cX10_tells 33 = .ok (.aload_n 0, 1) := by decide +kernel
theorem dX10_tells_34 : decode cX10_tells 34 = .ok (.iload 5, 2) := by decide +kernel
theorem dX10_tells_36 : decode cX10_tells 36 = .ok (.ifCond .eq 12, 3) := by decide +kernel
theorem dX10_tells_39 : decode cX10_tells 39 = .ok (.aload_n 0, 1) := by decide +kernel
theorem dX10_tells_40 : decode cX10_tells 40 = .ok (.getfield 98, 3) := by decide +kernel
theorem dX10_tells_43 : decode cX10_tells 43 = .ok (.iload_n 2, 1) := by decide +kernel
theorem dX10_tells_44 : decode cX10_tells 44 = .ok (.iaload, 1) := by decide +kernel
theorem dX10_tells_45 : decode cX10_tells 45 = .ok (.goto 4, 3) := by decide +kernel
theorem dX10_tells_48 : decode cX10_tells 48 = .ok (.iconst 1, 1) := by decide +kernel
theorem dX10_tells_49 : decode cX10_tells 49 = .ok (.putfield 302, 3) := by decide +kernel
theorem dX10_tells_52 : decode cX10_tells 52 = .ok (.aload_n 0, 1) := by decide +kernel
theorem dX10_tells_53 : decode cX10_tells 53 = .ok (.iload 5, 2) := by decide +kernel
theorem dX10_tells_55 : decode cX10_tells 55 = .ok (.ifCond .eq 12, 3) := by decide +kernel
theorem dX10_tells_58 : decode cX10_tells 58 = .ok (.aload_n 0, 1) := by decide +kernel
theorem dX10_tells_59 : decode cX10_tells 59 = .ok (.getfield 95, 3) := by decide +kernel
theorem dX10_tells_62 : decode cX10_tells 62 = .ok (.iload_n 2, 1) := by decide +kernel
theorem dX10_tells_63 : decode cX10_tells 63 = .ok (.laload, 1) := by decide +kernel
theorem dX10_tells_64 : decode cX10_tells 64 = .ok (.goto 4, 3) := by decide +kernel
theorem dX10_tells_67 : decode cX10_tells 67 = .ok (.lconst 0, 1) := by decide +kernel
theorem dX10_tells_68 : decode cX10_tells 68 = .ok (.putfield 305, 3) := by decide +kernel
theorem dX10_tells_71 : decode cX10_tells 71 = .ok (.return_, 1) := by decide +kernel
theorem dX10_tasks_0 : decode cX10_tasks 0 = .ok (.aload_n 0, 1) := by decide +kernel
theorem dX10_tasks_1 : decode cX10_tasks 1 = .ok (.getfield 122, 3) := by decide +kernel
theorem dX10_tasks_4 : decode cX10_tasks 4 = .ok (.ifCond .eq 4, 3) := by decide +kernel
theorem dX10_tasks_7 : decode cX10_tasks 7 = .ok (.return_, 1) := by decide +kernel
theorem dX10_tasks_8 : decode cX10_tasks 8 = .ok (.aload_n 0, 1) := by decide +kernel
theorem dX10_tasks_9 : decode cX10_tasks 9 = .ok (.iconst 1, 1) := by decide +kernel
theorem dX10_tasks_10 : decode cX10_tasks 10 = .ok (.putfield 122, 3) := by decide +kernel
theorem dX10_tasks_13 : decode cX10_tasks 13 = .ok (.iconst 0, 1) := by decide +kernel
theorem dX10_tasks_14 : decode cX10_tasks 14 = .ok (.istore_n 1, 1) := by decide +kernel
theorem dX10_tasks_15 : decode cX10_tasks 15 = .ok (.iload_n 1, 1) := by decide +kernel
theorem dX10_tasks_16 : decode cX10_tasks 16 = .ok (.bipush 64, 2) := by decide +kernel
theorem dX10_tasks_18 : decode cX10_tasks 18 = .ok (.if_icmp .ge 106, 3) := by decide +kernel
theorem dX10_tasks_21 : decode cX10_tasks 21 = .ok (.aload_n 0, 1) := by decide +kernel
theorem dX10_tasks_22 : decode cX10_tasks 22 = .ok (.iload_n 1, 1) := by decide +kernel
theorem dX10_tasks_23 : decode cX10_tasks 23 = .ok (.invokevirtual 201, 3) := by decide +kernel
theorem dX10_tasks_26 : decode cX10_tasks 26 = .ok (.ifCond .ne 6, 3) := by decide +kernel
theorem dX10_tasks_29 : decode cX10_tasks 29 = .ok (.goto 89, 3) := by decide +kernel
theorem dX10_tasks_32 : decode cX10_tasks 32 = .ok (.aload_n 0, 1) := by decide +kernel
theorem dX10_tasks_33 : decode cX10_tasks 33 = .ok (.iconst 0, 1) := by decide +kernel
theorem dX10_tasks_34 : decode cX10_tasks 34 = .ok (.iload_n 1, 1) := by decide +kernel
theorem dX10_tasks_35 : decode cX10_tasks 35 = .ok (.iconst 0, 1) := by decide +kernel
theorem dX10_tasks_36 : decode cX10_tasks 36 = .ok (.invokevirtual 295, 3) := by decide +kernel
theorem dX10_tasks_39 : decode cX10_tasks 39 = .ok (.istore_n 2, 1) := by decide +kernel
theorem dX10_tasks_40 : decode cX10_tasks 40 = .ok (.iconst 0, 1) := by decide +kernel
theorem dX10_tasks_41 : decode cX10_tasks 41 = .ok (.istore_n 3, 1) := by decide +kernel
theorem dX10_tasks_42 : decode cX10_tasks 42 = .ok (.iload_n 3, 1) := by decide +kernel
theorem dX10_tasks_43 : decode cX10_tasks 43 = .ok (.aload_n 0, 1) := by decide +kernel
theorem dX10_tasks_44 : decode cX10_tasks 44 = .ok (.getfield 210, 3) := by decide +kernel
theorem dX10_tasks_47 : decode cX10_tasks 47 = .ok (.if_icmp .ge 71, 3) := by decide +kernel
theorem dX10_tasks_50 : decode cX10_tasks 50 = .ok (.iload_n 2, 1) := by decide +kernel
theorem dX10_tasks_51 : decode cX10_tasks 51 = .ok (.ifCond .eq 11, 3) := by decide +kernel
theorem dX10_tasks_54 : decode cX10_tasks 54 = .ok (.aload_n 0, 1) := by decide +kernel
theorem dX10_tasks_55 : decode cX10_tasks 55 = .ok (.iconst 0, 1) := by decide +kernel
theorem dX10_tasks_56 : decode cX10_tasks 56 = .ok (.iload_n 1, 1) := by decide +kernel
theorem dX10_tasks_57 : decode cX10_tasks 57 = .ok (.iload_n 3, 1) := by decide +kernel
theorem dX10_tasks_58 : decode cX10_tasks 58 = .ok (.iconst 0, 1) := by decide +kernel
theorem dX10_tasks_59 : decode cX10_tasks 59 = .ok (.invokevirtual 298, 3) := by decide +kernel
theorem dX10_tasks_62 : decode cX10_tasks 62 = .ok (.aload_n 0, 1) := by decide +kernel
theorem dX10_tasks_63 : decode cX10_tasks 63 = .ok (.getfield 61, 3) := by decide +kernel
theorem dX10_tasks_66 : decode cX10_tasks 66 = .ok (.bipush 64, 2) := by decide +kernel
theorem dX10_tasks_68 : decode cX10_tasks 68 = .ok (.iload_n 3, 1) := by decide +kernel
theorem dX10_tasks_69 : decode cX10_tasks 69 = .ok (.imul, 1) := by decide +kernel
theorem dX10_tasks_70 : decode cX10_tasks 70 = .ok (.iload_n 1, 1) := by decide +kernel
theorem dX10_tasks_71 : decode cX10_tasks 71 = .ok (.iadd, 1) := by decide +kernel
theorem dX10_tasks_72 : decode cX10_tasks 72 = .ok (.iload_n 2, 1) := by decide +kernel
theorem dX10_tasks_73 : decode cX10_tasks 73 = .ok (.ifCond .eq 12, 3) := by decide +kernel
theorem dX10_tasks_76 : decode cX10_tasks 76 = .ok (.aload_n 0, 1) := by decide +kernel
theorem dX10_tasks_77 : decode cX10_tasks 77 = .ok (.getfield 98, 3) := by decide +kernel
theorem dX10_tasks_80 : decode cX10_tasks 80 = .ok (.iload_n 1, 1) := by decide +kernel
theorem dX10_tasks_81 : decode cX10_tasks 81 = .ok (.iaload, 1) := by decide +kernel
theorem dX10_tasks_82 : decode cX10_tasks 82 = .ok (.goto 4, 3) := by decide +kernel
theorem dX10_tasks_85 : decode cX10_tasks 85 = .ok (.iconst 1, 1) := by decide +kernel
theorem dX10_tasks_86 : decode cX10_tasks 86 = .ok (.iastore, 1) := by decide +kernel
theorem dX10_tasks_87 : decode cX10_tasks 87 = .ok (.aload_n 0, 1) := by decide +kernel
theorem dX10_tasks_88 : decode cX10_tasks 88 = .ok (.getfield 58, 3) := by decide +kernel
theorem dX10_tasks_91 : decode cX10_tasks 91 = .ok (.bipush 64, 2) := by decide +kernel
theorem dX10_tasks_93 : decode cX10_tasks 93 = .ok (.iload_n 3, 1) := by decide +kernel
theorem dX10_tasks_94 : decode cX10_tasks 94 = .ok (.imul, 1) := by decide +kernel
theorem dX10_tasks_95 : decode cX10_tasks 95 = .ok (.iload_n 1, 1) := by decide +kernel
theorem dX10_tasks_96 : decode cX10_tasks 96 = .ok (.iadd, 1) := by decide +kernel
theorem dX10_tasks_97 : decode cX10_tasks 97 = .ok (.iload_n 2, 1) := by decide +kernel
theorem dX10_tasks_98 : decode cX10_tasks 98 = .ok (.ifCond .eq 12, 3) := by decide +kernel
theorem dX10_tasks_101 : decode cX10_tasks 101 = .ok (.aload_n 0, 1) := by decide +kernel
theorem dX10_tasks_102 : decode cX10_tasks 102 = .ok (.getfield 95, 3) := by decide +kernel
theorem dX10_tasks_105 : decode cX10_tasks 105 = .ok (.iload_n 1, 1) := by decide +kernel
theorem dX10_tasks_106 : decode cX10_tasks 106 = .ok (.laload, 1) := by decide +kernel
theorem dX10_tasks_107 : decode cX10_tasks 107 = .ok (.goto 4, 3) := by decide +kernel
theorem dX10_tasks_110 : decode cX10_tasks 110 = .ok (.lconst 0, 1) := by decide +kernel
theorem dX10_tasks_111 : decode cX10_tasks 111 = .ok (.lastore, 1) := by decide +kernel
theorem dX10_tasks_112 : decode cX10_tasks 112 = .ok (.iinc 3 1, 3) := by decide +kernel
theorem dX10_tasks_115 : decode cX10_tasks 115 = .ok (.goto (-73), 3) := by decide +kernel
theorem dX10_tasks_118 : decode cX10_tasks 118 = .ok (.iinc 1 1, 3) := by decide +kernel
theorem dX10_tasks_121 : decode cX10_tasks 121 = .ok (.goto (-106), 3) := by decide +kernel
theorem dX10_tasks_124 : decode cX10_tasks 124 = .ok (.return_, 1) := by decide +kernel
theorem dX10_is_0 : decode cX10_is 0 = .ok (.iload_n 1, 1) := by decide +kernel
theorem dX10_is_1 : decode cX10_is 1 = .ok (.invokestatic 115, 3) := by decide +kernel
theorem dX10_is_4 : decode cX10_is 4 = .ok (.ifCond .eq 28, 3) := by decide +kernel
theorem dX10_is_7 : decode cX10_is 7 = .ok (.iload_n 2, 1) := by decide +kernel
theorem dX10_is_8 : decode cX10_is 8 = .ok (.invokestatic 119, 3) := by decide +kernel
theorem dX10_is_11 : decode cX10_is 11 = .ok (.ifCond .eq 21, 3) := by decide +kernel
theorem dX10_is_14 : decode cX10_is 14 = .ok (.iload_n 3, 1) := by decide +kernel
theorem dX10_is_15 : decode cX10_is 15 = .ok (.iconst 0, 1) := by decide +kernel
theorem dX10_is_16 : decode cX10_is 16 = .ok (.aload_n 0, 1) := by decide +kernel
theorem dX10_is_17 : decode cX10_is 17 = .ok (.getfield 210, 3) := by decide +kernel
theorem dX10_is_20 : decode cX10_is 20 = .ok (.iconst 1, 1) := by decide +kernel
theorem dX10_is_21 : decode cX10_is 21 = .ok (.isub, 1) := by decide +kernel
theorem dX10_is_22 : decode cX10_is 22 = .ok (.invokestatic 104, 3) := by decide +kernel
theorem dX10_is_25 : decode cX10_is 25 = .ok (.ifCond .eq 7, 3) := by decide +kernel
theorem dX10_is_28 : decode cX10_is 28 = .ok (.iconst 1, 1) := by decide +kernel
theorem dX10_is_29 : decode cX10_is 29 = .ok (.goto 4, 3) := by decide +kernel
theorem dX10_is_32 : decode cX10_is 32 = .ok (.iconst 0, 1) := by decide +kernel
theorem dX10_is_33 : decode cX10_is 33 = .ok (.ireturn, 1) := by decide +kernel
theorem dX10_value_0 : decode cX10_value 0 = .ok (.aload_n 0, 1) := by decide +kernel
theorem dX10_value_1 : decode cX10_value 1 = .ok (.iload_n 1, 1) := by decide +kernel
theorem dX10_value_2 : decode cX10_value 2 = .ok (.iload_n 2, 1) := by decide +kernel
theorem dX10_value_3 : decode cX10_value 3 = .ok (.iload_n 3, 1) := by decide +kernel
theorem dX10_value_4 : decode cX10_value 4 = .ok (.invokevirtual 309, 3) := by decide +kernel
theorem dX10_value_7 : decode cX10_value 7 = .ok (.ifCond .ne 7, 3) := by decide +kernel
theorem dX10_value_10 : decode cX10_value 10 = .ok (.ldc2_w 257, 3) := by decide +kernel
theorem dX10_value_13 : decode cX10_value 13 = .ok (.lreturn, 1) := by decide +kernel
theorem dX10_value_14 : decode cX10_value 14 = .ok (.aload_n 0, 1) := by decide +kernel
theorem dX10_value_15 : decode cX10_value 15 = .ok (.iload_n 1, 1) := by decide +kernel
theorem dX10_value_16 : decode cX10_value 16 = .ok (.iload_n 2, 1) := by decide +kernel
theorem dX10_value_17 : decode cX10_value 17 = .ok (.iload_n 3, 1) := by decide +kernel
theorem dX10_value_18 : decode cX10_value 18 = .ok (.iconst 0, 1) := by decide +kernel
theorem dX10_value_19 : decode cX10_value 19 = .ok (.invokevirtual 312, 3) := by decide +kernel
theorem dX10_value_22 : decode cX10_value 22 = .ok (.aload_n 0, 1) := by decide +kernel
theorem dX10_value_23 : decode cX10_value 23 = .ok (.getfield 305, 3) := by decide +kernel
theorem dX10_value_26 : decode cX10_value 26 = .ok (.lreturn, 1) := by decide +kernel
theorem dX10_error_0 : decode cX10_error 0 = .ok (.aload_n 0, 1) := by decide +kernel
theorem dX10_error_1 : decode cX10_error 1 = .ok (.iload_n 1, 1) := by decide +kernel
theorem dX10_error_2 : decode cX10_error 2 = .ok (.iload_n 2, 1) := by decide +kernel
theorem dX10_error_3 : decode cX10_error 3 = .ok (.iload_n 3, 1) := by decide +kernel
theorem dX10_error_4 : decode cX10_error 4 = .ok (.invokevirtual 309, 3) := by decide +kernel
theorem dX10_error_7 : decode cX10_error 7 = .ok (.ifCond .ne 5, 3) := by decide +kernel
theorem dX10_error_10 : decode cX10_error 10 = .ok (.iconst (-1), 1) := by decide +kernel
theorem dX10_error_11 : decode cX10_error 11 = .ok (.ireturn, 1) := by decide +kernel
theorem dX10_error_12 : decode cX10_error 12 = .ok (.aload_n 0, 1) := by decide +kernel
theorem dX10_error_13 : decode cX10_error 13 = .ok (.iload_n 1, 1) := by decide +kernel
theorem dX10_error_14 : decode cX10_error 14 = .ok (.iload_n 2, 1) := by decide +kernel
theorem dX10_error_15 : decode cX10_error 15 = .ok (.iload_n 3, 1) := by decide +kernel
theorem dX10_error_16 : decode cX10_error 16 = .ok (.iconst 0, 1) := by decide +kernel
theorem dX10_error_17 : decode cX10_error 17 = .ok (.invokevirtual 312, 3) := by decide +kernel
theorem dX10_error_20 : decode cX10_error 20 = .ok (.aload_n 0, 1) := by decide +kernel
theorem dX10_error_21 : decode cX10_error 21 = .ok (.getfield 302, 3) := by decide +kernel
theorem dX10_error_24 : decode cX10_error 24 = .ok (.ireturn, 1) := by decide +kernel
theorem dX10_right_0 : decode cX10_right 0 = .ok (.aload_n 0, 1) := by decide +kernel
theorem dX10_right_1 : decode cX10_right 1 = .ok (.iload_n 1, 1) := by decide +kernel
theorem dX10_right_2 : decode cX10_right 2 = .ok (.iload_n 2, 1) := by decide +kernel
theorem dX10_right_3 : decode cX10_right 3 = .ok (.iload_n 3, 1) := by decide +kernel
theorem dX10_right_4 : decode cX10_right 4 = .ok (.invokevirtual 309, 3) := by decide +kernel
theorem dX10_right_7 : decode cX10_right 7 = .ok (.ifCond .ne 7, 3) := by decide +kernel
theorem dX10_right_10 : decode cX10_right 10 = .ok (.ldc2_w 257, 3) := by decide +kernel
theorem dX10_right_13 : decode cX10_right 13 = .ok (.lreturn, 1) := by decide +kernel
theorem dX10_right_14 : decode cX10_right 14 = .ok (.aload_n 0, 1) := by decide +kernel
theorem dX10_right_15 : decode cX10_right 15 = .ok (.iload_n 1, 1) := by decide +kernel
theorem dX10_right_16 : decode cX10_right 16 = .ok (.iload_n 2, 1) := by decide +kernel
theorem dX10_right_17 : decode cX10_right 17 = .ok (.iload_n 3, 1) := by decide +kernel
theorem dX10_right_18 : decode cX10_right 18 = .ok (.iconst 1, 1) := by decide +kernel
theorem dX10_right_19 : decode cX10_right 19 = .ok (.invokevirtual 312, 3) := by decide +kernel
theorem dX10_right_22 : decode cX10_right 22 = .ok (.aload_n 0, 1) := by decide +kernel
theorem dX10_right_23 : decode cX10_right 23 = .ok (.getfield 305, 3) := by decide +kernel
theorem dX10_right_26 : decode cX10_right 26 = .ok (.lreturn, 1) := by decide +kernel
theorem dX10_rightError_0 : decode cX10_rightError 0 = .ok (.aload_n 0, 1) := by decide +kernel
theorem dX10_rightError_1 : decode cX10_rightError 1 = .ok (.iload_n 1, 1) := by decide +kernel
theorem dX10_rightError_2 : decode cX10_rightError 2 = .ok (.iload_n 2, 1) := by decide +kernel
theorem dX10_rightError_3 : decode cX10_rightError 3 = .ok (.iload_n 3, 1) := by decide +kernel
theorem dX10_rightError_4 : decode cX10_rightError 4 = .ok (.invokevirtual 309, 3) := by decide +kernel
theorem dX10_rightError_7 : decode cX10_rightError 7 = .ok (.ifCond .ne 5, 3) := by decide +kernel
theorem dX10_rightError_10 : decode cX10_rightError 10 = .ok (.iconst (-1), 1) := by decide +kernel
theorem dX10_rightError_11 : decode cX10_rightError 11 = .ok (.ireturn, 1) := by decide +kernel
theorem dX10_rightError_12 : decode cX10_rightError 12 = .ok (.aload_n 0, 1) := by decide +kernel
theorem dX10_rightError_13 : decode cX10_rightError 13 = .ok (.iload_n 1, 1) := by decide +kernel
theorem dX10_rightError_14 : decode cX10_rightError 14 = .ok (.iload_n 2, 1) := by decide +kernel
theorem dX10_rightError_15 : decode cX10_rightError 15 = .ok (.iload_n 3, 1) := by decide +kernel
theorem dX10_rightError_16 : decode cX10_rightError 16 = .ok (.iconst 1, 1) := by decide +kernel
theorem dX10_rightError_17 : decode cX10_rightError 17 = .ok (.invokevirtual 312, 3) := by decide +kernel
theorem dX10_rightError_20 : decode cX10_rightError 20 = .ok (.aload_n 0, 1) := by decide +kernel
theorem dX10_rightError_21 : decode cX10_rightError 21 = .ok (.getfield 302, 3) := by decide +kernel
theorem dX10_rightError_24 : decode cX10_rightError 24 = .ok (.ireturn, 1) := by decide +kernel
theorem dX10_isAlike_0 : decode cX10_isAlike 0 = .ok (.aload_n 0, 1) := by decide +kernel
theorem dX10_isAlike_1 : decode cX10_isAlike 1 = .ok (.invokevirtual 292, 3) := by decide +kernel
theorem dX10_isAlike_4 : decode cX10_isAlike 4 = .ok (.aload_n 0, 1) := by decide +kernel
theorem dX10_isAlike_5 : decode cX10_isAlike 5 = .ok (.iload_n 1, 1) := by decide +kernel
theorem dX10_isAlike_6 : decode cX10_isAlike 6 = .ok (.iload_n 2, 1) := by decide +kernel
theorem dX10_isAlike_7 : decode cX10_isAlike 7 = .ok (.iload_n 3, 1) := by decide +kernel
theorem dX10_isAlike_8 : decode cX10_isAlike 8 = .ok (.invokevirtual 295, 3) := by decide +kernel
theorem dX10_isAlike_11 : decode cX10_isAlike 11 = .ok (.istore 4, 2) := by decide +kernel
theorem dX10_isAlike_13 : decode cX10_isAlike 13 = .ok (.iconst 0, 1) := by decide +kernel
theorem dX10_isAlike_14 : decode cX10_isAlike 14 = .ok (.istore 5, 2) := by decide +kernel
theorem dX10_isAlike_16 : decode cX10_isAlike 16 = .ok (.iload 5, 2) := by decide +kernel
theorem dX10_isAlike_18 : decode cX10_isAlike 18 = .ok (.aload_n 0, 1) := by decide +kernel
theorem dX10_isAlike_19 : decode cX10_isAlike 19 = .ok (.getfield 210, 3) := by decide +kernel
theorem dX10_isAlike_22 : decode cX10_isAlike 22 = .ok (.if_icmp .ge 86, 3) := by decide +kernel
theorem dX10_isAlike_25 : decode cX10_isAlike 25 = .ok (.iload 4, 2) := by decide +kernel
theorem dX10_isAlike_27 : decode cX10_isAlike 27 = .ok (.ifCond .eq 12, 3) := by decide +kernel
theorem dX10_isAlike_30 : decode cX10_isAlike 30 = .ok (.aload_n 0, 1) := by decide +kernel
theorem dX10_isAlike_31 : decode cX10_isAlike 31 = .ok (.iload_n 1, 1) := by decide +kernel
theorem dX10_isAlike_32 : decode cX10_isAlike 32 = .ok (.iload_n 2, 1) := by decide +kernel
theorem dX10_isAlike_33 : decode cX10_isAlike 33 = .ok (.iload 5, 2) := by decide +kernel
theorem dX10_isAlike_35 : decode cX10_isAlike 35 = .ok (.iload_n 3, 1) := by decide +kernel
theorem dX10_isAlike_36 : decode cX10_isAlike 36 = .ok (.invokevirtual 298, 3) := by decide +kernel
theorem dX10_isAlike_39 : decode cX10_isAlike 39 = .ok (.iload 4, 2) := by decide +kernel
theorem dX10_isAlike_41 : decode cX10_isAlike 41 = .ok (.ifCond .eq 12, 3) := by decide +kernel
theorem dX10_isAlike_44 : decode cX10_isAlike 44 = .ok (.aload_n 0, 1) := by decide +kernel
theorem dX10_isAlike_45 : decode cX10_isAlike 45 = .ok (.getfield 98, 3) := by decide +kernel
theorem dX10_isAlike_48 : decode cX10_isAlike 48 = .ok (.iload_n 2, 1) := by decide +kernel
theorem dX10_isAlike_49 : decode cX10_isAlike 49 = .ok (.iaload, 1) := by decide +kernel
theorem dX10_isAlike_50 : decode cX10_isAlike 50 = .ok (.goto 4, 3) := by decide +kernel
theorem dX10_isAlike_53 : decode cX10_isAlike 53 = .ok (.iconst 1, 1) := by decide +kernel
theorem dX10_isAlike_54 : decode cX10_isAlike 54 = .ok (.istore 6, 2) := by decide +kernel
theorem dX10_isAlike_56 : decode cX10_isAlike 56 = .ok (.iload 6, 2) := by decide +kernel
theorem dX10_isAlike_58 : decode cX10_isAlike 58 = .ok (.aload_n 0, 1) := by decide +kernel
theorem dX10_isAlike_59 : decode cX10_isAlike 59 = .ok (.getfield 61, 3) := by decide +kernel
theorem dX10_isAlike_62 : decode cX10_isAlike 62 = .ok (.bipush 64, 2) := by decide +kernel
theorem dX10_isAlike_64 : decode cX10_isAlike 64 = .ok (.iload 5, 2) := by decide +kernel
theorem dX10_isAlike_66 : decode cX10_isAlike 66 = .ok (.imul, 1) := by decide +kernel
theorem dX10_isAlike_67 : decode cX10_isAlike 67 = .ok (.iload_n 2, 1) := by decide +kernel
theorem dX10_isAlike_68 : decode cX10_isAlike 68 = .ok (.iadd, 1) := by decide +kernel
theorem dX10_isAlike_69 : decode cX10_isAlike 69 = .ok (.iaload, 1) := by decide +kernel
theorem dX10_isAlike_70 : decode cX10_isAlike 70 = .ok (.if_icmp .ne 30, 3) := by decide +kernel
theorem dX10_isAlike_73 : decode cX10_isAlike 73 = .ok (.iload 6, 2) := by decide +kernel
theorem dX10_isAlike_75 : decode cX10_isAlike 75 = .ok (.ifCond .ne 27, 3) := by decide +kernel
theorem dX10_isAlike_78 : decode cX10_isAlike 78 = .ok (.aload_n 0, 1) := by decide +kernel
theorem dX10_isAlike_79 : decode cX10_isAlike 79 = .ok (.getfield 95, 3) := by decide +kernel
theorem dX10_isAlike_82 : decode cX10_isAlike 82 = .ok (.iload_n 2, 1) := by decide +kernel
theorem dX10_isAlike_83 : decode cX10_isAlike 83 = .ok (.laload, 1) := by decide +kernel
theorem dX10_isAlike_84 : decode cX10_isAlike 84 = .ok (.aload_n 0, 1) := by decide +kernel
theorem dX10_isAlike_85 : decode cX10_isAlike 85 = .ok (.getfield 58, 3) := by decide +kernel
theorem dX10_isAlike_88 : decode cX10_isAlike 88 = .ok (.bipush 64, 2) := by decide +kernel
theorem dX10_isAlike_90 : decode cX10_isAlike 90 = .ok (.iload 5, 2) := by decide +kernel
theorem dX10_isAlike_92 : decode cX10_isAlike 92 = .ok (.imul, 1) := by decide +kernel
theorem dX10_isAlike_93 : decode cX10_isAlike 93 = .ok (.iload_n 2, 1) := by decide +kernel
theorem dX10_isAlike_94 : decode cX10_isAlike 94 = .ok (.iadd, 1) := by decide +kernel
theorem dX10_isAlike_95 : decode cX10_isAlike 95 = .ok (.laload, 1) := by decide +kernel
theorem dX10_isAlike_96 : decode cX10_isAlike 96 = .ok (.lcmp, 1) := by decide +kernel
theorem dX10_isAlike_97 : decode cX10_isAlike 97 = .ok (.ifCond .eq 5, 3) := by decide +kernel
theorem dX10_isAlike_100 : decode cX10_isAlike 100 = .ok (.iconst 0, 1) := by decide +kernel
theorem dX10_isAlike_101 : decode cX10_isAlike 101 = .ok (.ireturn, 1) := by decide +kernel
theorem dX10_isAlike_102 : decode cX10_isAlike 102 = .ok (.iinc 5 1, 3) := by decide +kernel
theorem dX10_isAlike_105 : decode cX10_isAlike 105 = .ok (.goto (-89), 3) := by decide +kernel
theorem dX10_isAlike_108 : decode cX10_isAlike 108 = .ok (.iconst 1, 1) := by decide +kernel
theorem dX10_isAlike_109 : decode cX10_isAlike 109 = .ok (.ireturn, 1) := by decide +kernel
theorem dX10_tries_0 : decode cX10_tries 0 = .ok (.bipush 64, 2) := by decide +kernel
theorem dX10_tries_2 : decode cX10_tries 2 = .ok (.iload_n 1, 1) := by decide +kernel
theorem dX10_tries_3 : decode cX10_tries 3 = .ok (.imul, 1) := by decide +kernel
theorem dX10_tries_4 : decode cX10_tries 4 = .ok (.iload_n 2, 1) := by decide +kernel
theorem dX10_tries_5 : decode cX10_tries 5 = .ok (.iadd, 1) := by decide +kernel
theorem dX10_tries_6 : decode cX10_tries 6 = .ok (.istore 7, 2) := by decide +kernel
theorem dX10_tries_8 : decode cX10_tries 8 = .ok (.aload_n 0, 1) := by decide +kernel
theorem dX10_tries_9 : decode cX10_tries 9 = .ok (.bipush 40, 2) := by decide +kernel
theorem dX10_tries_11 : decode cX10_tries 11 = .ok (.iload 7, 2) := by decide +kernel
theorem dX10_tries_13 : decode cX10_tries 13 = .ok (.imul, 1) := by decide +kernel
theorem dX10_tries_14 : decode cX10_tries 14 = .ok (.iload_n 3, 1) := by decide +kernel
theorem dX10_tries_15 : decode cX10_tries 15 = .ok (.iadd, 1) := by decide +kernel
theorem dX10_tries_16 : decode cX10_tries 16 = .ok (.putfield 85, 3) := by decide +kernel
theorem dX10_tries_19 : decode cX10_tries 19 = .ok (.aload_n 0, 1) := by decide +kernel
theorem dX10_tries_20 : decode cX10_tries 20 = .ok (.iload 4, 2) := by decide +kernel
theorem dX10_tries_22 : decode cX10_tries 22 = .ok (.putfield 217, 3) := by decide +kernel
theorem dX10_tries_25 : decode cX10_tries 25 = .ok (.aload_n 0, 1) := by decide +kernel
theorem dX10_tries_26 : decode cX10_tries 26 = .ok (.iload 5, 2) := by decide +kernel
theorem dX10_tries_28 : decode cX10_tries 28 = .ok (.putfield 220, 3) := by decide +kernel
theorem dX10_tries_31 : decode cX10_tries 31 = .ok (.aload_n 0, 1) := by decide +kernel
theorem dX10_tries_32 : decode cX10_tries 32 = .ok (.iload 6, 2) := by decide +kernel
theorem dX10_tries_34 : decode cX10_tries 34 = .ok (.putfield 223, 3) := by decide +kernel
theorem dX10_tries_37 : decode cX10_tries 37 = .ok (.aload_n 0, 1) := by decide +kernel
theorem dX10_tries_38 : decode cX10_tries 38 = .ok (.iload_n 1, 1) := by decide +kernel
theorem dX10_tries_39 : decode cX10_tries 39 = .ok (.iload_n 2, 1) := by decide +kernel
theorem dX10_tries_40 : decode cX10_tries 40 = .ok (.iconst 1, 1) := by decide +kernel
theorem dX10_tries_41 : decode cX10_tries 41 = .ok (.invokevirtual 315, 3) := by decide +kernel
theorem dX10_tries_44 : decode cX10_tries 44 = .ok (.istore 8, 2) := by decide +kernel
theorem dX10_tries_46 : decode cX10_tries 46 = .ok (.aload_n 0, 1) := by decide +kernel
theorem dX10_tries_47 : decode cX10_tries 47 = .ok (.iconst (-1), 1) := by decide +kernel
theorem dX10_tries_48 : decode cX10_tries 48 = .ok (.putfield 85, 3) := by decide +kernel
theorem dX10_tries_51 : decode cX10_tries 51 = .ok (.iload 8, 2) := by decide +kernel
theorem dX10_tries_53 : decode cX10_tries 53 = .ok (.ireturn, 1) := by decide +kernel
theorem dX10_signOf_0 : decode cX10_signOf 0 = .ok (.iload_n 0, 1) := by decide +kernel
theorem dX10_signOf_1 : decode cX10_signOf 1 = .ok (.iconst 4, 1) := by decide +kernel
theorem dX10_signOf_2 : decode cX10_signOf 2 = .ok (.if_icmp .ne 8, 3) := by decide +kernel
theorem dX10_signOf_5 : decode cX10_signOf 5 = .ok (.bipush 43, 2) := by decide +kernel
theorem dX10_signOf_7 : decode cX10_signOf 7 = .ok (.goto 26, 3) := by decide +kernel
theorem dX10_signOf_10 : decode cX10_signOf 10 = .ok (.iload_n 0, 1) := by decide +kernel
theorem dX10_signOf_11 : decode cX10_signOf 11 = .ok (.iconst 5, 1) := by decide +kernel
theorem dX10_signOf_12 : decode cX10_signOf 12 = .ok (.if_icmp .ne 8, 3) := by decide +kernel
theorem dX10_signOf_15 : decode cX10_signOf 15 = .ok (.bipush 45, 2) := by decide +kernel
theorem dX10_signOf_17 : decode cX10_signOf 17 = .ok (.goto 16, 3) := by decide +kernel
theorem dX10_signOf_20 : decode cX10_signOf 20 = .ok (.iload_n 0, 1) := by decide +kernel
theorem dX10_signOf_21 : decode cX10_signOf 21 = .ok (.bipush 6, 2) := by decide +kernel
theorem dX10_signOf_23 : decode cX10_signOf 23 = .ok (.if_icmp .ne 8, 3) := by decide +kernel
theorem dX10_signOf_26 : decode cX10_signOf 26 = .ok (.bipush 42, 2) := by decide +kernel
theorem dX10_signOf_28 : decode cX10_signOf 28 = .ok (.goto 5, 3) := by decide +kernel
theorem dX10_signOf_31 : decode cX10_signOf 31 = .ok (.bipush 47, 2) := by decide +kernel
theorem dX10_signOf_33 : decode cX10_signOf 33 = .ok (.ireturn, 1) := by decide +kernel
theorem dX10_beside_0 : decode cX10_beside 0 = .ok (.iload_n 1, 1) := by decide +kernel
theorem dX10_beside_1 : decode cX10_beside 1 = .ok (.tableswitch 72 0 2 #[27, 42, 57], 27) := by decide +kernel
theorem dX10_beside_28 : decode cX10_beside 28 = .ok (.iload_n 0, 1) := by decide +kernel
theorem dX10_beside_29 : decode cX10_beside 29 = .ok (.bipush 8, 2) := by decide +kernel
theorem dX10_beside_31 : decode cX10_beside 31 = .ok (.if_icmp .lt 10, 3) := by decide +kernel
theorem dX10_beside_34 : decode cX10_beside 34 = .ok (.iload_n 0, 1) := by decide +kernel
theorem dX10_beside_35 : decode cX10_beside 35 = .ok (.bipush 8, 2) := by decide +kernel
theorem dX10_beside_37 : decode cX10_beside 37 = .ok (.isub, 1) := by decide +kernel
theorem dX10_beside_38 : decode cX10_beside 38 = .ok (.goto 4, 3) := by decide +kernel
theorem dX10_beside_41 : decode cX10_beside 41 = .ok (.iconst (-1), 1) := by decide +kernel
theorem dX10_beside_42 : decode cX10_beside 42 = .ok (.ireturn, 1) := by decide +kernel
theorem dX10_beside_43 : decode cX10_beside 43 = .ok (.iload_n 0, 1) := by decide +kernel
theorem dX10_beside_44 : decode cX10_beside 44 = .ok (.bipush 56, 2) := by decide +kernel
theorem dX10_beside_46 : decode cX10_beside 46 = .ok (.if_icmp .ge 10, 3) := by decide +kernel
theorem dX10_beside_49 : decode cX10_beside 49 = .ok (.iload_n 0, 1) := by decide +kernel
theorem dX10_beside_50 : decode cX10_beside 50 = .ok (.bipush 8, 2) := by decide +kernel
theorem dX10_beside_52 : decode cX10_beside 52 = .ok (.iadd, 1) := by decide +kernel
theorem dX10_beside_53 : decode cX10_beside 53 = .ok (.goto 4, 3) := by decide +kernel
theorem dX10_beside_56 : decode cX10_beside 56 = .ok (.iconst (-1), 1) := by decide +kernel
theorem dX10_beside_57 : decode cX10_beside 57 = .ok (.ireturn, 1) := by decide +kernel
theorem dX10_beside_58 : decode cX10_beside 58 = .ok (.iload_n 0, 1) := by decide +kernel
theorem dX10_beside_59 : decode cX10_beside 59 = .ok (.bipush 8, 2) := by decide +kernel
theorem dX10_beside_61 : decode cX10_beside 61 = .ok (.irem, 1) := by decide +kernel
theorem dX10_beside_62 : decode cX10_beside 62 = .ok (.ifCond .le 9, 3) := by decide +kernel
theorem dX10_beside_65 : decode cX10_beside 65 = .ok (.iload_n 0, 1) := by decide +kernel
theorem dX10_beside_66 : decode cX10_beside 66 = .ok (.iconst 1, 1) := by decide +kernel
theorem dX10_beside_67 : decode cX10_beside 67 = .ok (.isub, 1) := by decide +kernel
theorem dX10_beside_68 : decode cX10_beside 68 = .ok (.goto 4, 3) := by decide +kernel
theorem dX10_beside_71 : decode cX10_beside 71 = .ok (.iconst (-1), 1) := by decide +kernel
theorem dX10_beside_72 : decode cX10_beside 72 = .ok (.ireturn, 1) := by decide +kernel
theorem dX10_beside_73 : decode cX10_beside 73 = .ok (.iload_n 0, 1) := by decide +kernel
theorem dX10_beside_74 : decode cX10_beside 74 = .ok (.bipush 8, 2) := by decide +kernel
theorem dX10_beside_76 : decode cX10_beside 76 = .ok (.irem, 1) := by decide +kernel
theorem dX10_beside_77 : decode cX10_beside 77 = .ok (.bipush 7, 2) := by decide +kernel
theorem dX10_beside_79 : decode cX10_beside 79 = .ok (.if_icmp .ge 9, 3) := by decide +kernel
theorem dX10_beside_82 : decode cX10_beside 82 = .ok (.iload_n 0, 1) := by decide +kernel
theorem dX10_beside_83 : decode cX10_beside 83 = .ok (.iconst 1, 1) := by decide +kernel
theorem dX10_beside_84 : decode cX10_beside 84 = .ok (.iadd, 1) := by decide +kernel
theorem dX10_beside_85 : decode cX10_beside 85 = .ok (.goto 4, 3) := by decide +kernel
theorem dX10_beside_88 : decode cX10_beside 88 = .ok (.iconst (-1), 1) := by decide +kernel
theorem dX10_beside_89 : decode cX10_beside 89 = .ok (.ireturn, 1) := by decide +kernel
theorem dX10_slips_0 : decode cX10_slips 0 = .ok (.bipush 40, 2) := by decide +kernel
theorem dX10_slips_2 : decode cX10_slips 2 = .ok (.bipush 64, 2) := by decide +kernel
theorem dX10_slips_4 : decode cX10_slips 4 = .ok (.iload_n 1, 1) := by decide +kernel
theorem dX10_slips_5 : decode cX10_slips 5 = .ok (.imul, 1) := by decide +kernel
theorem dX10_slips_6 : decode cX10_slips 6 = .ok (.iload_n 2, 1) := by decide +kernel
theorem dX10_slips_7 : decode cX10_slips 7 = .ok (.iadd, 1) := by decide +kernel
theorem dX10_slips_8 : decode cX10_slips 8 = .ok (.imul, 1) := by decide +kernel
theorem dX10_slips_9 : decode cX10_slips 9 = .ok (.iload_n 3, 1) := by decide +kernel
theorem dX10_slips_10 : decode cX10_slips 10 = .ok (.iadd, 1) := by decide +kernel
theorem dX10_slips_11 : decode cX10_slips 11 = .ok (.istore 6, 2) := by decide +kernel
theorem dX10_slips_13 : decode cX10_slips 13 = .ok (.aload_n 0, 1) := by decide +kernel
theorem dX10_slips_14 : decode cX10_slips 14 = .ok (.getfield 29, 3) := by decide +kernel
theorem dX10_slips_17 : decode cX10_slips 17 = .ok (.iload 6, 2) := by decide +kernel
theorem dX10_slips_19 : decode cX10_slips 19 = .ok (.iaload, 1) := by decide +kernel
theorem dX10_slips_20 : decode cX10_slips 20 = .ok (.istore 7, 2) := by decide +kernel
theorem dX10_slips_22 : decode cX10_slips 22 = .ok (.aload_n 0, 1) := by decide +kernel
theorem dX10_slips_23 : decode cX10_slips 23 = .ok (.iload 4, 2) := by decide +kernel
theorem dX10_slips_25 : decode cX10_slips 25 = .ok (.putfield 318, 3) := by decide +kernel
theorem dX10_slips_28 : decode cX10_slips 28 = .ok (.iload 7, 2) := by decide +kernel
theorem dX10_slips_30 : decode cX10_slips 30 = .ok (.iconst 4, 1) := by decide +kernel
theorem dX10_slips_31 : decode cX10_slips 31 = .ok (.if_icmp .lt 61, 3) := by decide +kernel
theorem dX10_slips_34 : decode cX10_slips 34 = .ok (.iload 7, 2) := by decide +kernel
theorem dX10_slips_36 : decode cX10_slips 36 = .ok (.bipush 7, 2) := by decide +kernel
theorem dX10_slips_38 : decode cX10_slips 38 = .ok (.if_icmp .gt 54, 3) := by decide +kernel
theorem dX10_slips_41 : decode cX10_slips 41 = .ok (.iconst 4, 1) := by decide +kernel
theorem dX10_slips_42 : decode cX10_slips 42 = .ok (.istore 8, 2) := by decide +kernel
theorem dX10_slips_44 : decode cX10_slips 44 = .ok (.iload 8, 2) := by decide +kernel
theorem dX10_slips_46 : decode cX10_slips 46 = .ok (.bipush 7, 2) := by decide +kernel
theorem dX10_slips_48 : decode cX10_slips 48 = .ok (.if_icmp .gt 41, 3) := by decide +kernel
theorem dX10_slips_51 : decode cX10_slips 51 = .ok (.aload_n 0, 1) := by decide +kernel
theorem dX10_slips_52 : decode cX10_slips 52 = .ok (.iload 8, 2) := by decide +kernel
theorem dX10_slips_54 : decode cX10_slips 54 = .ok (.invokestatic 321, 3) := by decide +kernel
theorem dX10_slips_57 : decode cX10_slips 57 = .ok (.putfield 324, 3) := by decide +kernel
theorem dX10_slips_60 : decode cX10_slips 60 = .ok (.iload 8, 2) := by decide +kernel
theorem dX10_slips_62 : decode cX10_slips 62 = .ok (.iload 7, 2) := by decide +kernel
theorem dX10_slips_64 : decode cX10_slips 64 = .ok (.if_icmp .eq 19, 3) := by decide +kernel
theorem dX10_slips_67 : decode cX10_slips 67 = .ok (.aload_n 0, 1) := by decide +kernel
theorem dX10_slips_68 : decode cX10_slips 68 = .ok (.iload_n 1, 1) := by decide +kernel
theorem dX10_slips_69 : decode cX10_slips 69 = .ok (.iload_n 2, 1) := by decide +kernel
theorem dX10_slips_70 : decode cX10_slips 70 = .ok (.iload_n 3, 1) := by decide +kernel
theorem dX10_slips_71 : decode cX10_slips 71 = .ok (.iload 8, 2) := by decide +kernel
theorem dX10_slips_73 : decode cX10_slips 73 = .ok (.iconst 0, 1) := by decide +kernel
theorem dX10_slips_74 : decode cX10_slips 74 = .ok (.iconst 0, 1) := by decide +kernel
theorem dX10_slips_75 : decode cX10_slips 75 = .ok (.invokevirtual 327, 3) := by decide +kernel
theorem dX10_slips_78 : decode cX10_slips 78 = .ok (.ifCond .eq 5, 3) := by decide +kernel
theorem dX10_slips_81 : decode cX10_slips 81 = .ok (.iconst 1, 1) := by decide +kernel
theorem dX10_slips_82 : decode cX10_slips 82 = .ok (.ireturn, 1) := by decide +kernel
theorem dX10_slips_83 : decode cX10_slips 83 = .ok (.iinc 8 1, 3) := by decide +kernel
theorem dX10_slips_86 : decode cX10_slips 86 = .ok (.goto (-42), 3) := by decide +kernel
theorem dX10_slips_89 : decode cX10_slips 89 = .ok (.goto 193, 3) := by decide +kernel
theorem dX10_slips_92 : decode cX10_slips 92 = .ok (.iload 7, 2) := by decide +kernel
theorem dX10_slips_94 : decode cX10_slips 94 = .ok (.ifCond .ne 70, 3) := by decide +kernel
theorem dX10_slips_97 : decode cX10_slips 97 = .ok (.iconst 0, 1) := by decide +kernel
theorem dX10_slips_98 : decode cX10_slips 98 = .ok (.istore 8, 2) := by decide +kernel
theorem dX10_slips_100 : decode cX10_slips 100 = .ok (.iload 8, 2) := by decide +kernel
theorem dX10_slips_102 : decode cX10_slips 102 = .ok (.iconst 2, 1) := by decide +kernel
theorem dX10_slips_103 : decode cX10_slips 103 = .ok (.if_icmp .ge 58, 3) := by decide +kernel
theorem dX10_slips_106 : decode cX10_slips 106 = .ok (.aload_n 0, 1) := by decide +kernel
theorem dX10_slips_107 : decode cX10_slips 107 = .ok (.iload 8, 2) := by decide +kernel
theorem dX10_slips_109 : decode cX10_slips 109 = .ok (.ifCond .ne 15, 3) := by decide +kernel
theorem dX10_slips_112 : decode cX10_slips 112 = .ok (.aload_n 0, 1) := by decide +kernel
theorem dX10_slips_113 : decode cX10_slips 113 = .ok (.getfield 32, 3) := by decide +kernel
theorem dX10_slips_116 : decode cX10_slips 116 = .ok (.iload 6, 2) := by decide +kernel
theorem dX10_slips_118 : decode cX10_slips 118 = .ok (.iaload, 1) := by decide +kernel
theorem dX10_slips_119 : decode cX10_slips 119 = .ok (.iconst 1, 1) := by decide +kernel
theorem dX10_slips_120 : decode cX10_slips 120 = .ok (.iadd, 1) := by decide +kernel
theorem dX10_slips_121 : decode cX10_slips 121 = .ok (.goto 12, 3) := by decide +kernel
theorem dX10_slips_124 : decode cX10_slips 124 = .ok (.aload_n 0, 1) := by decide +kernel
theorem dX10_slips_125 : decode cX10_slips 125 = .ok (.getfield 32, 3) := by decide +kernel
theorem dX10_slips_128 : decode cX10_slips 128 = .ok (.iload 6, 2) := by decide +kernel
theorem dX10_slips_130 : decode cX10_slips 130 = .ok (.iaload, 1) := by decide +kernel
theorem dX10_slips_131 : decode cX10_slips 131 = .ok (.iconst 1, 1) := by decide +kernel
theorem dX10_slips_132 : decode cX10_slips 132 = .ok (.isub, 1) := by decide +kernel
theorem dX10_slips_133 : decode cX10_slips 133 = .ok (.putfield 324, 3) := by decide +kernel
theorem dX10_slips_136 : decode cX10_slips 136 = .ok (.aload_n 0, 1) := by decide +kernel
theorem dX10_slips_137 : decode cX10_slips 137 = .ok (.iload_n 1, 1) := by decide +kernel
theorem dX10_slips_138 : decode cX10_slips 138 = .ok (.iload_n 2, 1) := by decide +kernel
theorem dX10_slips_139 : decode cX10_slips 139 = .ok (.iload_n 3, 1) := by decide +kernel
theorem dX10_slips_140 : decode cX10_slips 140 = .ok (.iload 7, 2) := by decide +kernel
theorem dX10_slips_142 : decode cX10_slips 142 = .ok (.aload_n 0, 1) := by decide +kernel
theorem dX10_slips_143 : decode cX10_slips 143 = .ok (.getfield 324, 3) := by decide +kernel
theorem dX10_slips_146 : decode cX10_slips 146 = .ok (.iconst 0, 1) := by decide +kernel
theorem dX10_slips_147 : decode cX10_slips 147 = .ok (.invokevirtual 327, 3) := by decide +kernel
theorem dX10_slips_150 : decode cX10_slips 150 = .ok (.ifCond .eq 5, 3) := by decide +kernel
theorem dX10_slips_153 : decode cX10_slips 153 = .ok (.iconst 1, 1) := by decide +kernel
theorem dX10_slips_154 : decode cX10_slips 154 = .ok (.ireturn, 1) := by decide +kernel
theorem dX10_slips_155 : decode cX10_slips 155 = .ok (.iinc 8 1, 3) := by decide +kernel
theorem dX10_slips_158 : decode cX10_slips 158 = .ok (.goto (-58), 3) := by decide +kernel
theorem dX10_slips_161 : decode cX10_slips 161 = .ok (.goto 121, 3) := by decide +kernel
theorem dX10_slips_164 : decode cX10_slips 164 = .ok (.iload 7, 2) := by decide +kernel
theorem dX10_slips_166 : decode cX10_slips 166 = .ok (.iconst 1, 1) := by decide +kernel
theorem dX10_slips_167 : decode cX10_slips 167 = .ok (.if_icmp .eq 9, 3) := by decide +kernel
theorem dX10_slips_170 : decode cX10_slips 170 = .ok (.iload 7, 2) := by decide +kernel
theorem dX10_slips_172 : decode cX10_slips 172 = .ok (.iconst 2, 1) := by decide +kernel
theorem dX10_slips_173 : decode cX10_slips 173 = .ok (.if_icmp .ne 109, 3) := by decide +kernel
theorem dX10_slips_176 : decode cX10_slips 176 = .ok (.iconst 0, 1) := by decide +kernel
theorem dX10_slips_177 : decode cX10_slips 177 = .ok (.istore 8, 2) := by decide +kernel
theorem dX10_slips_179 : decode cX10_slips 179 = .ok (.iload 8, 2) := by decide +kernel
theorem dX10_slips_181 : decode cX10_slips 181 = .ok (.iconst 4, 1) := by decide +kernel
theorem dX10_slips_182 : decode cX10_slips 182 = .ok (.if_icmp .ge 100, 3) := by decide +kernel
theorem dX10_slips_185 : decode cX10_slips 185 = .ok (.aload_n 0, 1) := by decide +kernel
theorem dX10_slips_186 : decode cX10_slips 186 = .ok (.iload 5, 2) := by decide +kernel
theorem dX10_slips_188 : decode cX10_slips 188 = .ok (.ifCond .eq 13, 3) := by decide +kernel
theorem dX10_slips_191 : decode cX10_slips 191 = .ok (.aload_n 0, 1) := by decide +kernel
theorem dX10_slips_192 : decode cX10_slips 192 = .ok (.getfield 35, 3) := by decide +kernel
theorem dX10_slips_195 : decode cX10_slips 195 = .ok (.iload 6, 2) := by decide +kernel
theorem dX10_slips_197 : decode cX10_slips 197 = .ok (.iaload, 1) := by decide +kernel
theorem dX10_slips_198 : decode cX10_slips 198 = .ok (.goto 10, 3) := by decide +kernel
theorem dX10_slips_201 : decode cX10_slips 201 = .ok (.aload_n 0, 1) := by decide +kernel
theorem dX10_slips_202 : decode cX10_slips 202 = .ok (.getfield 32, 3) := by decide +kernel
theorem dX10_slips_205 : decode cX10_slips 205 = .ok (.iload 6, 2) := by decide +kernel
theorem dX10_slips_207 : decode cX10_slips 207 = .ok (.iaload, 1) := by decide +kernel
theorem dX10_slips_208 : decode cX10_slips 208 = .ok (.iload 8, 2) := by decide +kernel
theorem dX10_slips_210 : decode cX10_slips 210 = .ok (.invokestatic 331, 3) := by decide +kernel
theorem dX10_slips_213 : decode cX10_slips 213 = .ok (.putfield 324, 3) := by decide +kernel
theorem dX10_slips_216 : decode cX10_slips 216 = .ok (.aload_n 0, 1) := by decide +kernel
theorem dX10_slips_217 : decode cX10_slips 217 = .ok (.getfield 324, 3) := by decide +kernel
theorem dX10_slips_220 : decode cX10_slips 220 = .ok (.iconst (-1), 1) := by decide +kernel
theorem dX10_slips_221 : decode cX10_slips 221 = .ok (.if_icmp .eq 55, 3) := by decide +kernel
theorem dX10_slips_224 : decode cX10_slips 224 = .ok (.aload_n 0, 1) := by decide +kernel
theorem dX10_slips_225 : decode cX10_slips 225 = .ok (.iload_n 1, 1) := by decide +kernel
theorem dX10_slips_226 : decode cX10_slips 226 = .ok (.iload_n 2, 1) := by decide +kernel
theorem dX10_slips_227 : decode cX10_slips 227 = .ok (.iload_n 3, 1) := by decide +kernel
theorem dX10_slips_228 : decode cX10_slips 228 = .ok (.iload 7, 2) := by decide +kernel
theorem dX10_slips_230 : decode cX10_slips 230 = .ok (.iload 5, 2) := by decide +kernel
theorem dX10_slips_232 : decode cX10_slips 232 = .ok (.ifCond .eq 13, 3) := by decide +kernel
theorem dX10_slips_235 : decode cX10_slips 235 = .ok (.aload_n 0, 1) := by decide +kernel
theorem dX10_slips_236 : decode cX10_slips 236 = .ok (.getfield 32, 3) := by decide +kernel
theorem dX10_slips_239 : decode cX10_slips 239 = .ok (.iload 6, 2) := by decide +kernel
theorem dX10_slips_241 : decode cX10_slips 241 = .ok (.iaload, 1) := by decide +kernel
theorem dX10_slips_242 : decode cX10_slips 242 = .ok (.goto 7, 3) := by decide +kernel
theorem dX10_slips_245 : decode cX10_slips 245 = .ok (.aload_n 0, 1) := by decide +kernel
theorem dX10_slips_246 : decode cX10_slips 246 = .ok (.getfield 324, 3) := by decide +kernel
theorem dX10_slips_249 : decode cX10_slips 249 = .ok (.iload 5, 2) := by decide +kernel
theorem dX10_slips_251 : decode cX10_slips 251 = .ok (.ifCond .eq 10, 3) := by decide +kernel
theorem dX10_slips_254 : decode cX10_slips 254 = .ok (.aload_n 0, 1) := by decide +kernel
theorem dX10_slips_255 : decode cX10_slips 255 = .ok (.getfield 324, 3) := by decide +kernel
theorem dX10_slips_258 : decode cX10_slips 258 = .ok (.goto 10, 3) := by decide +kernel
theorem dX10_slips_261 : decode cX10_slips 261 = .ok (.aload_n 0, 1) := by decide +kernel
theorem dX10_slips_262 : decode cX10_slips 262 = .ok (.getfield 35, 3) := by decide +kernel
theorem dX10_slips_265 : decode cX10_slips 265 = .ok (.iload 6, 2) := by decide +kernel
theorem dX10_slips_267 : decode cX10_slips 267 = .ok (.iaload, 1) := by decide +kernel
theorem dX10_slips_268 : decode cX10_slips 268 = .ok (.invokevirtual 327, 3) := by decide +kernel
theorem dX10_slips_271 : decode cX10_slips 271 = .ok (.ifCond .eq 5, 3) := by decide +kernel
theorem dX10_slips_274 : decode cX10_slips 274 = .ok (.iconst 1, 1) := by decide +kernel
theorem dX10_slips_275 : decode cX10_slips 275 = .ok (.ireturn, 1) := by decide +kernel
theorem dX10_slips_276 : decode cX10_slips 276 = .ok (.iinc 8 1, 3) := by decide +kernel
theorem dX10_slips_279 : decode cX10_slips 279 = .ok (.goto (-100), 3) := by decide +kernel
theorem dX10_slips_282 : decode cX10_slips 282 = .ok (.iconst 0, 1) := by decide +kernel
theorem dX10_slips_283 : decode cX10_slips 283 = .ok (.ireturn, 1) := by decide +kernel
theorem dX10_isSlip_0 : decode cX10_isSlip 0 = .ok (.bipush 64, 2) := by decide +kernel
theorem dX10_isSlip_2 : decode cX10_isSlip 2 = .ok (.iload_n 1, 1) := by decide +kernel
theorem dX10_isSlip_3 : decode cX10_isSlip 3 = .ok (.imul, 1) := by decide +kernel
theorem dX10_isSlip_4 : decode cX10_isSlip 4 = .ok (.iload_n 2, 1) := by decide +kernel
theorem dX10_isSlip_5 : decode cX10_isSlip 5 = .ok (.iadd, 1) := by decide +kernel
theorem dX10_isSlip_6 : decode cX10_isSlip 6 = .ok (.istore_n 3, 1) := by decide +kernel
theorem dX10_isSlip_7 : decode cX10_isSlip 7 = .ok (.iconst 0, 1) := by decide +kernel
theorem dX10_isSlip_8 : decode cX10_isSlip 8 = .ok (.istore 4, 2) := by decide +kernel
theorem dX10_isSlip_10 : decode cX10_isSlip 10 = .ok (.iload 4, 2) := by decide +kernel
theorem dX10_isSlip_12 : decode cX10_isSlip 12 = .ok (.aload_n 0, 1) := by decide +kernel
theorem dX10_isSlip_13 : decode cX10_isSlip 13 = .ok (.getfield 20, 3) := by decide +kernel
theorem dX10_isSlip_16 : decode cX10_isSlip 16 = .ok (.iload_n 3, 1) := by decide +kernel
theorem dX10_isSlip_17 : decode cX10_isSlip 17 = .ok (.iaload, 1) := by decide +kernel
theorem dX10_isSlip_18 : decode cX10_isSlip 18 = .ok (.if_icmp .ge 95, 3) := by decide +kernel
theorem dX10_isSlip_21 : decode cX10_isSlip 21 = .ok (.iconst 0, 1) := by decide +kernel
theorem dX10_isSlip_22 : decode cX10_isSlip 22 = .ok (.istore 5, 2) := by decide +kernel
theorem dX10_isSlip_24 : decode cX10_isSlip 24 = .ok (.iload 5, 2) := by decide +kernel
theorem dX10_isSlip_26 : decode cX10_isSlip 26 = .ok (.aload_n 0, 1) := by decide +kernel
theorem dX10_isSlip_27 : decode cX10_isSlip 27 = .ok (.getfield 26, 3) := by decide +kernel
theorem dX10_isSlip_30 : decode cX10_isSlip 30 = .ok (.iload_n 3, 1) := by decide +kernel
theorem dX10_isSlip_31 : decode cX10_isSlip 31 = .ok (.iaload, 1) := by decide +kernel
theorem dX10_isSlip_32 : decode cX10_isSlip 32 = .ok (.if_icmp .ge 75, 3) := by decide +kernel
theorem dX10_isSlip_35 : decode cX10_isSlip 35 = .ok (.aload_n 0, 1) := by decide +kernel
theorem dX10_isSlip_36 : decode cX10_isSlip 36 = .ok (.getfield 38, 3) := by decide +kernel
theorem dX10_isSlip_39 : decode cX10_isSlip 39 = .ok (.bipush 40, 2) := by decide +kernel
theorem dX10_isSlip_41 : decode cX10_isSlip 41 = .ok (.iload_n 3, 1) := by decide +kernel
theorem dX10_isSlip_42 : decode cX10_isSlip 42 = .ok (.imul, 1) := by decide +kernel
theorem dX10_isSlip_43 : decode cX10_isSlip 43 = .ok (.iload 5, 2) := by decide +kernel
theorem dX10_isSlip_45 : decode cX10_isSlip 45 = .ok (.iadd, 1) := by decide +kernel
theorem dX10_isSlip_46 : decode cX10_isSlip 46 = .ok (.iaload, 1) := by decide +kernel
theorem dX10_isSlip_47 : decode cX10_isSlip 47 = .ok (.iload 4, 2) := by decide +kernel
theorem dX10_isSlip_49 : decode cX10_isSlip 49 = .ok (.if_icmp .ne 19, 3) := by decide +kernel
theorem dX10_isSlip_52 : decode cX10_isSlip 52 = .ok (.aload_n 0, 1) := by decide +kernel
theorem dX10_isSlip_53 : decode cX10_isSlip 53 = .ok (.iload_n 1, 1) := by decide +kernel
theorem dX10_isSlip_54 : decode cX10_isSlip 54 = .ok (.iload_n 2, 1) := by decide +kernel
theorem dX10_isSlip_55 : decode cX10_isSlip 55 = .ok (.iload 5, 2) := by decide +kernel
theorem dX10_isSlip_57 : decode cX10_isSlip 57 = .ok (.iload 4, 2) := by decide +kernel
theorem dX10_isSlip_59 : decode cX10_isSlip 59 = .ok (.iconst 0, 1) := by decide +kernel
theorem dX10_isSlip_60 : decode cX10_isSlip 60 = .ok (.invokevirtual 334, 3) := by decide +kernel
theorem dX10_isSlip_63 : decode cX10_isSlip 63 = .ok (.ifCond .eq 5, 3) := by decide +kernel
theorem dX10_isSlip_66 : decode cX10_isSlip 66 = .ok (.iconst 1, 1) := by decide +kernel
theorem dX10_isSlip_67 : decode cX10_isSlip 67 = .ok (.ireturn, 1) := by decide +kernel
theorem dX10_isSlip_68 : decode cX10_isSlip 68 = .ok (.aload_n 0, 1) := by decide +kernel
theorem dX10_isSlip_69 : decode cX10_isSlip 69 = .ok (.getfield 41, 3) := by decide +kernel
theorem dX10_isSlip_72 : decode cX10_isSlip 72 = .ok (.bipush 40, 2) := by decide +kernel
theorem dX10_isSlip_74 : decode cX10_isSlip 74 = .ok (.iload_n 3, 1) := by decide +kernel
theorem dX10_isSlip_75 : decode cX10_isSlip 75 = .ok (.imul, 1) := by decide +kernel
theorem dX10_isSlip_76 : decode cX10_isSlip 76 = .ok (.iload 5, 2) := by decide +kernel
theorem dX10_isSlip_78 : decode cX10_isSlip 78 = .ok (.iadd, 1) := by decide +kernel
theorem dX10_isSlip_79 : decode cX10_isSlip 79 = .ok (.iaload, 1) := by decide +kernel
theorem dX10_isSlip_80 : decode cX10_isSlip 80 = .ok (.iload 4, 2) := by decide +kernel
theorem dX10_isSlip_82 : decode cX10_isSlip 82 = .ok (.if_icmp .ne 19, 3) := by decide +kernel
theorem dX10_isSlip_85 : decode cX10_isSlip 85 = .ok (.aload_n 0, 1) := by decide +kernel
theorem dX10_isSlip_86 : decode cX10_isSlip 86 = .ok (.iload_n 1, 1) := by decide +kernel
theorem dX10_isSlip_87 : decode cX10_isSlip 87 = .ok (.iload_n 2, 1) := by decide +kernel
theorem dX10_isSlip_88 : decode cX10_isSlip 88 = .ok (.iload 5, 2) := by decide +kernel
theorem dX10_isSlip_90 : decode cX10_isSlip 90 = .ok (.iload 4, 2) := by decide +kernel
theorem dX10_isSlip_92 : decode cX10_isSlip 92 = .ok (.iconst 1, 1) := by decide +kernel
theorem dX10_isSlip_93 : decode cX10_isSlip 93 = .ok (.invokevirtual 334, 3) := by decide +kernel
theorem dX10_isSlip_96 : decode cX10_isSlip 96 = .ok (.ifCond .eq 5, 3) := by decide +kernel
theorem dX10_isSlip_99 : decode cX10_isSlip 99 = .ok (.iconst 1, 1) := by decide +kernel
theorem dX10_isSlip_100 : decode cX10_isSlip 100 = .ok (.ireturn, 1) := by decide +kernel
theorem dX10_isSlip_101 : decode cX10_isSlip 101 = .ok (.iinc 5 1, 3) := by decide +kernel
theorem dX10_isSlip_104 : decode cX10_isSlip 104 = .ok (.goto (-80), 3) := by decide +kernel
theorem dX10_isSlip_107 : decode cX10_isSlip 107 = .ok (.iinc 4 1, 3) := by decide +kernel
theorem dX10_isSlip_110 : decode cX10_isSlip 110 = .ok (.goto (-100), 3) := by decide +kernel
theorem dX10_isSlip_113 : decode cX10_isSlip 113 = .ok (.iconst 0, 1) := by decide +kernel
theorem dX10_isSlip_114 : decode cX10_isSlip 114 = .ok (.ireturn, 1) := by decide +kernel
theorem dX10_kindOf_0 : decode cX10_kindOf 0 = .ok (.bipush 64, 2) := by decide +kernel
theorem dX10_kindOf_2 : decode cX10_kindOf 2 = .ok (.iload_n 1, 1) := by decide +kernel
theorem dX10_kindOf_3 : decode cX10_kindOf 3 = .ok (.imul, 1) := by decide +kernel
theorem dX10_kindOf_4 : decode cX10_kindOf 4 = .ok (.iload_n 2, 1) := by decide +kernel
theorem dX10_kindOf_5 : decode cX10_kindOf 5 = .ok (.iadd, 1) := by decide +kernel
theorem dX10_kindOf_6 : decode cX10_kindOf 6 = .ok (.istore_n 3, 1) := by decide +kernel
theorem dX10_kindOf_7 : decode cX10_kindOf 7 = .ok (.aload_n 0, 1) := by decide +kernel
theorem dX10_kindOf_8 : decode cX10_kindOf 8 = .ok (.getfield 13, 3) := by decide +kernel
theorem dX10_kindOf_11 : decode cX10_kindOf 11 = .ok (.iload_n 3, 1) := by decide +kernel
theorem dX10_kindOf_12 : decode cX10_kindOf 12 = .ok (.iaload, 1) := by decide +kernel
theorem dX10_kindOf_13 : decode cX10_kindOf 13 = .ok (.ifCond .ne 5, 3) := by decide +kernel
theorem dX10_kindOf_16 : decode cX10_kindOf 16 = .ok (.iconst 0, 1) := by decide +kernel
theorem dX10_kindOf_17 : decode cX10_kindOf 17 = .ok (.ireturn, 1) := by decide +kernel
theorem dX10_kindOf_18 : decode cX10_kindOf 18 = .ok (.aload_n 0, 1) := by decide +kernel
theorem dX10_kindOf_19 : decode cX10_kindOf 19 = .ok (.getfield 13, 3) := by decide +kernel
theorem dX10_kindOf_22 : decode cX10_kindOf 22 = .ok (.iload_n 3, 1) := by decide +kernel
theorem dX10_kindOf_23 : decode cX10_kindOf 23 = .ok (.iaload, 1) := by decide +kernel
theorem dX10_kindOf_24 : decode cX10_kindOf 24 = .ok (.iconst 1, 1) := by decide +kernel
theorem dX10_kindOf_25 : decode cX10_kindOf 25 = .ok (.if_icmp .ne 67, 3) := by decide +kernel
theorem dX10_kindOf_28 : decode cX10_kindOf 28 = .ok (.aload_n 0, 1) := by decide +kernel
theorem dX10_kindOf_29 : decode cX10_kindOf 29 = .ok (.invokevirtual 292, 3) := by decide +kernel
theorem dX10_kindOf_32 : decode cX10_kindOf 32 = .ok (.iconst 0, 1) := by decide +kernel
theorem dX10_kindOf_33 : decode cX10_kindOf 33 = .ok (.istore 4, 2) := by decide +kernel
theorem dX10_kindOf_35 : decode cX10_kindOf 35 = .ok (.iload 4, 2) := by decide +kernel
theorem dX10_kindOf_37 : decode cX10_kindOf 37 = .ok (.aload_n 0, 1) := by decide +kernel
theorem dX10_kindOf_38 : decode cX10_kindOf 38 = .ok (.getfield 210, 3) := by decide +kernel
theorem dX10_kindOf_41 : decode cX10_kindOf 41 = .ok (.if_icmp .ge 49, 3) := by decide +kernel
theorem dX10_kindOf_44 : decode cX10_kindOf 44 = .ok (.aload_n 0, 1) := by decide +kernel
theorem dX10_kindOf_45 : decode cX10_kindOf 45 = .ok (.getfield 61, 3) := by decide +kernel
theorem dX10_kindOf_48 : decode cX10_kindOf 48 = .ok (.bipush 64, 2) := by decide +kernel
theorem dX10_kindOf_50 : decode cX10_kindOf 50 = .ok (.iload 4, 2) := by decide +kernel
theorem dX10_kindOf_52 : decode cX10_kindOf 52 = .ok (.imul, 1) := by decide +kernel
theorem dX10_kindOf_53 : decode cX10_kindOf 53 = .ok (.iload_n 2, 1) := by decide +kernel
theorem dX10_kindOf_54 : decode cX10_kindOf 54 = .ok (.iadd, 1) := by decide +kernel
theorem dX10_kindOf_55 : decode cX10_kindOf 55 = .ok (.iaload, 1) := by decide +kernel
theorem dX10_kindOf_56 : decode cX10_kindOf 56 = .ok (.ifCond .ne 28, 3) := by decide +kernel
theorem dX10_kindOf_59 : decode cX10_kindOf 59 = .ok (.aload_n 0, 1) := by decide +kernel
theorem dX10_kindOf_60 : decode cX10_kindOf 60 = .ok (.getfield 58, 3) := by decide +kernel
theorem dX10_kindOf_63 : decode cX10_kindOf 63 = .ok (.bipush 64, 2) := by decide +kernel
theorem dX10_kindOf_65 : decode cX10_kindOf 65 = .ok (.iload 4, 2) := by decide +kernel
theorem dX10_kindOf_67 : decode cX10_kindOf 67 = .ok (.imul, 1) := by decide +kernel
theorem dX10_kindOf_68 : decode cX10_kindOf 68 = .ok (.iload_n 2, 1) := by decide +kernel
theorem dX10_kindOf_69 : decode cX10_kindOf 69 = .ok (.iadd, 1) := by decide +kernel
theorem dX10_kindOf_70 : decode cX10_kindOf 70 = .ok (.laload, 1) := by decide +kernel
theorem dX10_kindOf_71 : decode cX10_kindOf 71 = .ok (.aload_n 0, 1) := by decide +kernel
theorem dX10_kindOf_72 : decode cX10_kindOf 72 = .ok (.getfield 17, 3) := by decide +kernel
theorem dX10_kindOf_75 : decode cX10_kindOf 75 = .ok (.iload_n 3, 1) := by decide +kernel
theorem dX10_kindOf_76 : decode cX10_kindOf 76 = .ok (.iaload, 1) := by decide +kernel
theorem dX10_kindOf_77 : decode cX10_kindOf 77 = .ok (.i2l, 1) := by decide +kernel
theorem dX10_kindOf_78 : decode cX10_kindOf 78 = .ok (.lcmp, 1) := by decide +kernel
theorem dX10_kindOf_79 : decode cX10_kindOf 79 = .ok (.ifCond .ne 5, 3) := by decide +kernel
theorem dX10_kindOf_82 : decode cX10_kindOf 82 = .ok (.iconst 2, 1) := by decide +kernel
theorem dX10_kindOf_83 : decode cX10_kindOf 83 = .ok (.ireturn, 1) := by decide +kernel
theorem dX10_kindOf_84 : decode cX10_kindOf 84 = .ok (.iinc 4 1, 3) := by decide +kernel
theorem dX10_kindOf_87 : decode cX10_kindOf 87 = .ok (.goto (-52), 3) := by decide +kernel
theorem dX10_kindOf_90 : decode cX10_kindOf 90 = .ok (.iconst 5, 1) := by decide +kernel
theorem dX10_kindOf_91 : decode cX10_kindOf 91 = .ok (.ireturn, 1) := by decide +kernel
theorem dX10_kindOf_92 : decode cX10_kindOf 92 = .ok (.aload_n 0, 1) := by decide +kernel
theorem dX10_kindOf_93 : decode cX10_kindOf 93 = .ok (.iload_n 1, 1) := by decide +kernel
theorem dX10_kindOf_94 : decode cX10_kindOf 94 = .ok (.iload_n 2, 1) := by decide +kernel
theorem dX10_kindOf_95 : decode cX10_kindOf 95 = .ok (.iconst 0, 1) := by decide +kernel
theorem dX10_kindOf_96 : decode cX10_kindOf 96 = .ok (.invokevirtual 315, 3) := by decide +kernel
theorem dX10_kindOf_99 : decode cX10_kindOf 99 = .ok (.ifCond .eq 5, 3) := by decide +kernel
theorem dX10_kindOf_102 : decode cX10_kindOf 102 = .ok (.iconst 1, 1) := by decide +kernel
theorem dX10_kindOf_103 : decode cX10_kindOf 103 = .ok (.ireturn, 1) := by decide +kernel
theorem dX10_kindOf_104 : decode cX10_kindOf 104 = .ok (.aload_n 0, 1) := by decide +kernel
theorem dX10_kindOf_105 : decode cX10_kindOf 105 = .ok (.iload_n 1, 1) := by decide +kernel
theorem dX10_kindOf_106 : decode cX10_kindOf 106 = .ok (.iload_n 2, 1) := by decide +kernel
theorem dX10_kindOf_107 : decode cX10_kindOf 107 = .ok (.iconst 1, 1) := by decide +kernel
theorem dX10_kindOf_108 : decode cX10_kindOf 108 = .ok (.invokevirtual 315, 3) := by decide +kernel
theorem dX10_kindOf_111 : decode cX10_kindOf 111 = .ok (.ifCond .eq 5, 3) := by decide +kernel
theorem dX10_kindOf_114 : decode cX10_kindOf 114 = .ok (.iconst 3, 1) := by decide +kernel
theorem dX10_kindOf_115 : decode cX10_kindOf 115 = .ok (.ireturn, 1) := by decide +kernel
theorem dX10_kindOf_116 : decode cX10_kindOf 116 = .ok (.aload_n 0, 1) := by decide +kernel
theorem dX10_kindOf_117 : decode cX10_kindOf 117 = .ok (.iload_n 1, 1) := by decide +kernel
theorem dX10_kindOf_118 : decode cX10_kindOf 118 = .ok (.iload_n 2, 1) := by decide +kernel
theorem dX10_kindOf_119 : decode cX10_kindOf 119 = .ok (.invokevirtual 338, 3) := by decide +kernel
theorem dX10_kindOf_122 : decode cX10_kindOf 122 = .ok (.ifCond .eq 7, 3) := by decide +kernel
theorem dX10_kindOf_125 : decode cX10_kindOf 125 = .ok (.iconst 4, 1) := by decide +kernel
theorem dX10_kindOf_126 : decode cX10_kindOf 126 = .ok (.goto 4, 3) := by decide +kernel
theorem dX10_kindOf_129 : decode cX10_kindOf 129 = .ok (.iconst 5, 1) := by decide +kernel
theorem dX10_kindOf_130 : decode cX10_kindOf 130 = .ok (.ireturn, 1) := by decide +kernel
theorem dX10_isPupil_0 : decode cX10_isPupil 0 = .ok (.iload_n 0, 1) := by decide +kernel
theorem dX10_isPupil_1 : decode cX10_isPupil 1 = .ok (.iconst 1, 1) := by decide +kernel
theorem dX10_isPupil_2 : decode cX10_isPupil 2 = .ok (.iconst 5, 1) := by decide +kernel
theorem dX10_isPupil_3 : decode cX10_isPupil 3 = .ok (.invokestatic 104, 3) := by decide +kernel
theorem dX10_isPupil_6 : decode cX10_isPupil 6 = .ok (.ireturn, 1) := by decide +kernel
theorem dX10_kind_0 : decode cX10_kind 0 = .ok (.iload_n 1, 1) := by decide +kernel
theorem dX10_kind_1 : decode cX10_kind 1 = .ok (.invokestatic 341, 3) := by decide +kernel
theorem dX10_kind_4 : decode cX10_kind 4 = .ok (.ifCond .eq 27, 3) := by decide +kernel
theorem dX10_kind_7 : decode cX10_kind 7 = .ok (.iload_n 2, 1) := by decide +kernel
theorem dX10_kind_8 : decode cX10_kind 8 = .ok (.invokestatic 119, 3) := by decide +kernel
theorem dX10_kind_11 : decode cX10_kind 11 = .ok (.ifCond .eq 20, 3) := by decide +kernel
theorem dX10_kind_14 : decode cX10_kind 14 = .ok (.aload_n 0, 1) := by decide +kernel
theorem dX10_kind_15 : decode cX10_kind 15 = .ok (.iload_n 2, 1) := by decide +kernel
theorem dX10_kind_16 : decode cX10_kind 16 = .ok (.invokevirtual 201, 3) := by decide +kernel
theorem dX10_kind_19 : decode cX10_kind 19 = .ok (.ifCond .eq 12, 3) := by decide +kernel
theorem dX10_kind_22 : decode cX10_kind 22 = .ok (.aload_n 0, 1) := by decide +kernel
theorem dX10_kind_23 : decode cX10_kind 23 = .ok (.iload_n 1, 1) := by decide +kernel
theorem dX10_kind_24 : decode cX10_kind 24 = .ok (.iload_n 2, 1) := by decide +kernel
theorem dX10_kind_25 : decode cX10_kind 25 = .ok (.invokevirtual 344, 3) := by decide +kernel
theorem dX10_kind_28 : decode cX10_kind 28 = .ok (.goto 4, 3) := by decide +kernel
theorem dX10_kind_31 : decode cX10_kind 31 = .ok (.iconst (-1), 1) := by decide +kernel
theorem dX10_kind_32 : decode cX10_kind 32 = .ok (.ireturn, 1) := by decide +kernel
theorem dX10_pointsOf_0 : decode cX10_pointsOf 0 = .ok (.aload_n 0, 1) := by decide +kernel
theorem dX10_pointsOf_1 : decode cX10_pointsOf 1 = .ok (.iload_n 1, 1) := by decide +kernel
theorem dX10_pointsOf_2 : decode cX10_pointsOf 2 = .ok (.iload_n 2, 1) := by decide +kernel
theorem dX10_pointsOf_3 : decode cX10_pointsOf 3 = .ok (.invokevirtual 344, 3) := by decide +kernel
theorem dX10_pointsOf_6 : decode cX10_pointsOf 6 = .ok (.tableswitch 55 1 4 #[30, 46, 30, 37], 30) := by decide +kernel
theorem dX10_pointsOf_36 : decode cX10_pointsOf 36 = .ok (.aload_n 0, 1) := by decide +kernel
theorem dX10_pointsOf_37 : decode cX10_pointsOf 37 = .ok (.getfield 52, 3) := by decide +kernel
theorem dX10_pointsOf_40 : decode cX10_pointsOf 40 = .ok (.iload_n 2, 1) := by decide +kernel
theorem dX10_pointsOf_41 : decode cX10_pointsOf 41 = .ok (.iaload, 1) := by decide +kernel
theorem dX10_pointsOf_42 : decode cX10_pointsOf 42 = .ok (.ireturn, 1) := by decide +kernel
theorem dX10_pointsOf_43 : decode cX10_pointsOf 43 = .ok (.aload_n 0, 1) := by decide +kernel
theorem dX10_pointsOf_44 : decode cX10_pointsOf 44 = .ok (.getfield 52, 3) := by decide +kernel
theorem dX10_pointsOf_47 : decode cX10_pointsOf 47 = .ok (.iload_n 2, 1) := by decide +kernel
theorem dX10_pointsOf_48 : decode cX10_pointsOf 48 = .ok (.iaload, 1) := by decide +kernel
theorem dX10_pointsOf_49 : decode cX10_pointsOf 49 = .ok (.iconst 2, 1) := by decide +kernel
theorem dX10_pointsOf_50 : decode cX10_pointsOf 50 = .ok (.idiv, 1) := by decide +kernel
theorem dX10_pointsOf_51 : decode cX10_pointsOf 51 = .ok (.ireturn, 1) := by decide +kernel
theorem dX10_pointsOf_52 : decode cX10_pointsOf 52 = .ok (.aload_n 0, 1) := by decide +kernel
theorem dX10_pointsOf_53 : decode cX10_pointsOf 53 = .ok (.getfield 52, 3) := by decide +kernel
theorem dX10_pointsOf_56 : decode cX10_pointsOf 56 = .ok (.iload_n 2, 1) := by decide +kernel
theorem dX10_pointsOf_57 : decode cX10_pointsOf 57 = .ok (.iaload, 1) := by decide +kernel
theorem dX10_pointsOf_58 : decode cX10_pointsOf 58 = .ok (.iconst 4, 1) := by decide +kernel
theorem dX10_pointsOf_59 : decode cX10_pointsOf 59 = .ok (.idiv, 1) := by decide +kernel
theorem dX10_pointsOf_60 : decode cX10_pointsOf 60 = .ok (.ireturn, 1) := by decide +kernel
theorem dX10_pointsOf_61 : decode cX10_pointsOf 61 = .ok (.iconst 0, 1) := by decide +kernel
theorem dX10_pointsOf_62 : decode cX10_pointsOf 62 = .ok (.ireturn, 1) := by decide +kernel
theorem dX10_points_0 : decode cX10_points 0 = .ok (.iload_n 1, 1) := by decide +kernel
theorem dX10_points_1 : decode cX10_points 1 = .ok (.invokestatic 341, 3) := by decide +kernel
theorem dX10_points_4 : decode cX10_points 4 = .ok (.ifCond .eq 23, 3) := by decide +kernel
theorem dX10_points_7 : decode cX10_points 7 = .ok (.iload_n 2, 1) := by decide +kernel
theorem dX10_points_8 : decode cX10_points 8 = .ok (.iconst (-1), 1) := by decide +kernel
theorem dX10_points_9 : decode cX10_points 9 = .ok (.if_icmp .eq 20, 3) := by decide +kernel
theorem dX10_points_12 : decode cX10_points 12 = .ok (.iload_n 2, 1) := by decide +kernel
theorem dX10_points_13 : decode cX10_points 13 = .ok (.invokestatic 119, 3) := by decide +kernel
theorem dX10_points_16 : decode cX10_points 16 = .ok (.ifCond .eq 11, 3) := by decide +kernel
theorem dX10_points_19 : decode cX10_points 19 = .ok (.aload_n 0, 1) := by decide +kernel
theorem dX10_points_20 : decode cX10_points 20 = .ok (.iload_n 2, 1) := by decide +kernel
theorem dX10_points_21 : decode cX10_points 21 = .ok (.invokevirtual 201, 3) := by decide +kernel
theorem dX10_points_24 : decode cX10_points 24 = .ok (.ifCond .ne 5, 3) := by decide +kernel
theorem dX10_points_27 : decode cX10_points 27 = .ok (.iconst (-1), 1) := by decide +kernel
theorem dX10_points_28 : decode cX10_points 28 = .ok (.ireturn, 1) := by decide +kernel
theorem dX10_points_29 : decode cX10_points 29 = .ok (.iconst 0, 1) := by decide +kernel
theorem dX10_points_30 : decode cX10_points 30 = .ok (.istore_n 3, 1) := by decide +kernel
theorem dX10_points_31 : decode cX10_points 31 = .ok (.iconst 0, 1) := by decide +kernel
theorem dX10_points_32 : decode cX10_points 32 = .ok (.istore 4, 2) := by decide +kernel
theorem dX10_points_34 : decode cX10_points 34 = .ok (.iload 4, 2) := by decide +kernel
theorem dX10_points_36 : decode cX10_points 36 = .ok (.bipush 64, 2) := by decide +kernel
theorem dX10_points_38 : decode cX10_points 38 = .ok (.if_icmp .ge 43, 3) := by decide +kernel
theorem dX10_points_41 : decode cX10_points 41 = .ok (.iload_n 3, 1) := by decide +kernel
theorem dX10_points_42 : decode cX10_points 42 = .ok (.iload_n 2, 1) := by decide +kernel
theorem dX10_points_43 : decode cX10_points 43 = .ok (.iconst (-1), 1) := by decide +kernel
theorem dX10_points_44 : decode cX10_points 44 = .ok (.if_icmp .eq 9, 3) := by decide +kernel
theorem dX10_points_47 : decode cX10_points 47 = .ok (.iload_n 2, 1) := by decide +kernel
theorem dX10_points_48 : decode cX10_points 48 = .ok (.iload 4, 2) := by decide +kernel
theorem dX10_points_50 : decode cX10_points 50 = .ok (.if_icmp .ne 22, 3) := by decide +kernel
theorem dX10_points_53 : decode cX10_points 53 = .ok (.aload_n 0, 1) := by decide +kernel
theorem dX10_points_54 : decode cX10_points 54 = .ok (.iload 4, 2) := by decide +kernel
theorem dX10_points_56 : decode cX10_points 56 = .ok (.invokevirtual 201, 3) := by decide +kernel
theorem dX10_points_59 : decode cX10_points 59 = .ok (.ifCond .eq 13, 3) := by decide +kernel
theorem dX10_points_62 : decode cX10_points 62 = .ok (.aload_n 0, 1) := by decide +kernel
theorem dX10_points_63 : decode cX10_points 63 = .ok (.iload_n 1, 1) := by decide +kernel
theorem dX10_points_64 : decode cX10_points 64 = .ok (.iload 4, 2) := by decide +kernel
theorem dX10_points_66 : decode cX10_points 66 = .ok (.invokevirtual 347, 3) := by decide +kernel
theorem dX10_points_69 : decode cX10_points 69 = .ok (.goto 4, 3) := by decide +kernel
theorem dX10_points_72 : decode cX10_points 72 = .ok (.iconst 0, 1) := by decide +kernel
theorem dX10_points_73 : decode cX10_points 73 = .ok (.iadd, 1) := by decide +kernel
theorem dX10_points_74 : decode cX10_points 74 = .ok (.istore_n 3, 1) := by decide +kernel
theorem dX10_points_75 : decode cX10_points 75 = .ok (.iinc 4 1, 3) := by decide +kernel
theorem dX10_points_78 : decode cX10_points 78 = .ok (.goto (-44), 3) := by decide +kernel
theorem dX10_points_81 : decode cX10_points 81 = .ok (.iload_n 3, 1) := by decide +kernel
theorem dX10_points_82 : decode cX10_points 82 = .ok (.ireturn, 1) := by decide +kernel
theorem dX10_slip_0 : decode cX10_slip 0 = .ok (.iload_n 1, 1) := by decide +kernel
theorem dX10_slip_1 : decode cX10_slip 1 = .ok (.invokestatic 341, 3) := by decide +kernel
theorem dX10_slip_4 : decode cX10_slip 4 = .ok (.ifCond .eq 37, 3) := by decide +kernel
theorem dX10_slip_7 : decode cX10_slip 7 = .ok (.iload_n 2, 1) := by decide +kernel
theorem dX10_slip_8 : decode cX10_slip 8 = .ok (.invokestatic 119, 3) := by decide +kernel
theorem dX10_slip_11 : decode cX10_slip 11 = .ok (.ifCond .eq 30, 3) := by decide +kernel
theorem dX10_slip_14 : decode cX10_slip 14 = .ok (.aload_n 0, 1) := by decide +kernel
theorem dX10_slip_15 : decode cX10_slip 15 = .ok (.iload_n 2, 1) := by decide +kernel
theorem dX10_slip_16 : decode cX10_slip 16 = .ok (.invokevirtual 201, 3) := by decide +kernel
theorem dX10_slip_19 : decode cX10_slip 19 = .ok (.ifCond .eq 22, 3) := by decide +kernel
theorem dX10_slip_22 : decode cX10_slip 22 = .ok (.iload_n 3, 1) := by decide +kernel
theorem dX10_slip_23 : decode cX10_slip 23 = .ok (.iconst 0, 1) := by decide +kernel
theorem dX10_slip_24 : decode cX10_slip 24 = .ok (.iconst 1, 1) := by decide +kernel
theorem dX10_slip_25 : decode cX10_slip 25 = .ok (.invokestatic 104, 3) := by decide +kernel
theorem dX10_slip_28 : decode cX10_slip 28 = .ok (.ifCond .eq 13, 3) := by decide +kernel
theorem dX10_slip_31 : decode cX10_slip 31 = .ok (.aload_n 0, 1) := by decide +kernel
theorem dX10_slip_32 : decode cX10_slip 32 = .ok (.iload_n 1, 1) := by decide +kernel
theorem dX10_slip_33 : decode cX10_slip 33 = .ok (.iload_n 2, 1) := by decide +kernel
theorem dX10_slip_34 : decode cX10_slip 34 = .ok (.invokevirtual 344, 3) := by decide +kernel
theorem dX10_slip_37 : decode cX10_slip 37 = .ok (.iconst 4, 1) := by decide +kernel
theorem dX10_slip_38 : decode cX10_slip 38 = .ok (.if_icmp .eq 5, 3) := by decide +kernel
theorem dX10_slip_41 : decode cX10_slip 41 = .ok (.iconst (-1), 1) := by decide +kernel
theorem dX10_slip_42 : decode cX10_slip 42 = .ok (.ireturn, 1) := by decide +kernel
theorem dX10_slip_43 : decode cX10_slip 43 = .ok (.iload_n 3, 1) := by decide +kernel
theorem dX10_slip_44 : decode cX10_slip 44 = .ok (.ifCond .ne 10, 3) := by decide +kernel
theorem dX10_slip_47 : decode cX10_slip 47 = .ok (.aload_n 0, 1) := by decide +kernel
theorem dX10_slip_48 : decode cX10_slip 48 = .ok (.getfield 318, 3) := by decide +kernel
theorem dX10_slip_51 : decode cX10_slip 51 = .ok (.goto 7, 3) := by decide +kernel
theorem dX10_slip_54 : decode cX10_slip 54 = .ok (.aload_n 0, 1) := by decide +kernel
theorem dX10_slip_55 : decode cX10_slip 55 = .ok (.getfield 324, 3) := by decide +kernel
theorem dX10_slip_58 : decode cX10_slip 58 = .ok (.ireturn, 1) := by decide +kernel
theorem dX10_fault_0 : decode cX10_fault 0 = .ok (.iload_n 1, 1) := by decide +kernel
theorem dX10_fault_1 : decode cX10_fault 1 = .ok (.invokestatic 341, 3) := by decide +kernel
theorem dX10_fault_4 : decode cX10_fault 4 = .ok (.ifCond .eq 7, 3) := by decide +kernel
theorem dX10_fault_7 : decode cX10_fault 7 = .ok (.iload_n 2, 1) := by decide +kernel
theorem dX10_fault_8 : decode cX10_fault 8 = .ok (.ifCond .ge 5, 3) := by decide +kernel
theorem dX10_fault_11 : decode cX10_fault 11 = .ok (.iconst (-1), 1) := by decide +kernel
theorem dX10_fault_12 : decode cX10_fault 12 = .ok (.ireturn, 1) := by decide +kernel
theorem dX10_fault_13 : decode cX10_fault 13 = .ok (.iconst 0, 1) := by decide +kernel
theorem dX10_fault_14 : decode cX10_fault 14 = .ok (.istore_n 3, 1) := by decide +kernel
theorem dX10_fault_15 : decode cX10_fault 15 = .ok (.iconst 0, 1) := by decide +kernel
theorem dX10_fault_16 : decode cX10_fault 16 = .ok (.istore 4, 2) := by decide +kernel
theorem dX10_fault_18 : decode cX10_fault 18 = .ok (.iload 4, 2) := by decide +kernel
theorem dX10_fault_20 : decode cX10_fault 20 = .ok (.bipush 64, 2) := by decide +kernel
theorem dX10_fault_22 : decode cX10_fault 22 = .ok (.if_icmp .ge 56, 3) := by decide +kernel
theorem dX10_fault_25 : decode cX10_fault 25 = .ok (.aload_n 0, 1) := by decide +kernel
theorem dX10_fault_26 : decode cX10_fault 26 = .ok (.iload 4, 2) := by decide +kernel
theorem dX10_fault_28 : decode cX10_fault 28 = .ok (.invokevirtual 201, 3) := by decide +kernel
theorem dX10_fault_31 : decode cX10_fault 31 = .ok (.ifCond .ne 6, 3) := by decide +kernel
theorem dX10_fault_34 : decode cX10_fault 34 = .ok (.goto 38, 3) := by decide +kernel
theorem dX10_fault_37 : decode cX10_fault 37 = .ok (.aload_n 0, 1) := by decide +kernel
theorem dX10_fault_38 : decode cX10_fault 38 = .ok (.iload_n 1, 1) := by decide +kernel
theorem dX10_fault_39 : decode cX10_fault 39 = .ok (.iload 4, 2) := by decide +kernel
theorem dX10_fault_41 : decode cX10_fault 41 = .ok (.invokevirtual 344, 3) := by decide +kernel
theorem dX10_fault_44 : decode cX10_fault 44 = .ok (.istore 5, 2) := by decide +kernel
theorem dX10_fault_46 : decode cX10_fault 46 = .ok (.iload 5, 2) := by decide +kernel
theorem dX10_fault_48 : decode cX10_fault 48 = .ok (.iconst 1, 1) := by decide +kernel
theorem dX10_fault_49 : decode cX10_fault 49 = .ok (.if_icmp .eq 23, 3) := by decide +kernel
theorem dX10_fault_52 : decode cX10_fault 52 = .ok (.iload 5, 2) := by decide +kernel
theorem dX10_fault_54 : decode cX10_fault 54 = .ok (.iconst 3, 1) := by decide +kernel
theorem dX10_fault_55 : decode cX10_fault 55 = .ok (.if_icmp .ne 6, 3) := by decide +kernel
theorem dX10_fault_58 : decode cX10_fault 58 = .ok (.goto 14, 3) := by decide +kernel
theorem dX10_fault_61 : decode cX10_fault 61 = .ok (.iload_n 3, 1) := by decide +kernel
theorem dX10_fault_62 : decode cX10_fault 62 = .ok (.iload_n 2, 1) := by decide +kernel
theorem dX10_fault_63 : decode cX10_fault 63 = .ok (.if_icmp .ne 6, 3) := by decide +kernel
theorem dX10_fault_66 : decode cX10_fault 66 = .ok (.iload 4, 2) := by decide +kernel
theorem dX10_fault_68 : decode cX10_fault 68 = .ok (.ireturn, 1) := by decide +kernel
theorem dX10_fault_69 : decode cX10_fault 69 = .ok (.iinc 3 1, 3) := by decide +kernel
theorem dX10_fault_72 : decode cX10_fault 72 = .ok (.iinc 4 1, 3) := by decide +kernel
theorem dX10_fault_75 : decode cX10_fault 75 = .ok (.goto (-57), 3) := by decide +kernel
theorem dX10_fault_78 : decode cX10_fault 78 = .ok (.iconst (-1), 1) := by decide +kernel
theorem dX10_fault_79 : decode cX10_fault 79 = .ok (.ireturn, 1) := by decide +kernel
theorem dX10_areOneText_0 : decode cX10_areOneText 0 = .ok (.aload_n 0, 1) := by decide +kernel
theorem dX10_areOneText_1 : decode cX10_areOneText 1 = .ok (.getfield 13, 3) := by decide +kernel
theorem dX10_areOneText_4 : decode cX10_areOneText 4 = .ok (.iload_n 1, 1) := by decide +kernel
theorem dX10_areOneText_5 : decode cX10_areOneText 5 = .ok (.iaload, 1) := by decide +kernel
theorem dX10_areOneText_6 : decode cX10_areOneText 6 = .ok (.iconst 2, 1) := by decide +kernel
theorem dX10_areOneText_7 : decode cX10_areOneText 7 = .ok (.if_icmp .ne 28, 3) := by decide +kernel
theorem dX10_areOneText_10 : decode cX10_areOneText 10 = .ok (.aload_n 0, 1) := by decide +kernel
theorem dX10_areOneText_11 : decode cX10_areOneText 11 = .ok (.getfield 13, 3) := by decide +kernel
theorem dX10_areOneText_14 : decode cX10_areOneText 14 = .ok (.iload_n 2, 1) := by decide +kernel
theorem dX10_areOneText_15 : decode cX10_areOneText 15 = .ok (.iaload, 1) := by decide +kernel
theorem dX10_areOneText_16 : decode cX10_areOneText 16 = .ok (.iconst 2, 1) := by decide +kernel
theorem dX10_areOneText_17 : decode cX10_areOneText 17 = .ok (.if_icmp .ne 18, 3) := by decide +kernel
theorem dX10_areOneText_20 : decode cX10_areOneText 20 = .ok (.aload_n 0, 1) := by decide +kernel
theorem dX10_areOneText_21 : decode cX10_areOneText 21 = .ok (.getfield 20, 3) := by decide +kernel
theorem dX10_areOneText_24 : decode cX10_areOneText 24 = .ok (.iload_n 1, 1) := by decide +kernel
theorem dX10_areOneText_25 : decode cX10_areOneText 25 = .ok (.iaload, 1) := by decide +kernel
theorem dX10_areOneText_26 : decode cX10_areOneText 26 = .ok (.aload_n 0, 1) := by decide +kernel
theorem dX10_areOneText_27 : decode cX10_areOneText 27 = .ok (.getfield 20, 3) := by decide +kernel
theorem dX10_areOneText_30 : decode cX10_areOneText 30 = .ok (.iload_n 2, 1) := by decide +kernel
theorem dX10_areOneText_31 : decode cX10_areOneText 31 = .ok (.iaload, 1) := by decide +kernel
theorem dX10_areOneText_32 : decode cX10_areOneText 32 = .ok (.if_icmp .eq 5, 3) := by decide +kernel
theorem dX10_areOneText_35 : decode cX10_areOneText 35 = .ok (.iconst 0, 1) := by decide +kernel
theorem dX10_areOneText_36 : decode cX10_areOneText 36 = .ok (.ireturn, 1) := by decide +kernel
theorem dX10_areOneText_37 : decode cX10_areOneText 37 = .ok (.iconst 0, 1) := by decide +kernel
theorem dX10_areOneText_38 : decode cX10_areOneText 38 = .ok (.istore_n 3, 1) := by decide +kernel
theorem dX10_areOneText_39 : decode cX10_areOneText 39 = .ok (.iload_n 3, 1) := by decide +kernel
theorem dX10_areOneText_40 : decode cX10_areOneText 40 = .ok (.aload_n 0, 1) := by decide +kernel
theorem dX10_areOneText_41 : decode cX10_areOneText 41 = .ok (.getfield 20, 3) := by decide +kernel
theorem dX10_areOneText_44 : decode cX10_areOneText 44 = .ok (.iload_n 1, 1) := by decide +kernel
theorem dX10_areOneText_45 : decode cX10_areOneText 45 = .ok (.iaload, 1) := by decide +kernel
theorem dX10_areOneText_46 : decode cX10_areOneText 46 = .ok (.if_icmp .ge 36, 3) := by decide +kernel
theorem dX10_areOneText_49 : decode cX10_areOneText 49 = .ok (.aload_n 0, 1) := by decide +kernel
theorem dX10_areOneText_50 : decode cX10_areOneText 50 = .ok (.getfield 23, 3) := by decide +kernel
theorem dX10_areOneText_53 : decode cX10_areOneText 53 = .ok (.bipush 40, 2) := by decide +kernel
theorem dX10_areOneText_55 : decode cX10_areOneText 55 = .ok (.iload_n 1, 1) := by decide +kernel
theorem dX10_areOneText_56 : decode cX10_areOneText 56 = .ok (.imul, 1) := by decide +kernel
theorem dX10_areOneText_57 : decode cX10_areOneText 57 = .ok (.iload_n 3, 1) := by decide +kernel
theorem dX10_areOneText_58 : decode cX10_areOneText 58 = .ok (.iadd, 1) := by decide +kernel
theorem dX10_areOneText_59 : decode cX10_areOneText 59 = .ok (.baload, 1) := by decide +kernel
theorem dX10_areOneText_60 : decode cX10_areOneText 60 = .ok (.aload_n 0, 1) := by decide +kernel
theorem dX10_areOneText_61 : decode cX10_areOneText 61 = .ok (.getfield 23, 3) := by decide +kernel
theorem dX10_areOneText_64 : decode cX10_areOneText 64 = .ok (.bipush 40, 2) := by decide +kernel
theorem dX10_areOneText_66 : decode cX10_areOneText 66 = .ok (.iload_n 2, 1) := by decide +kernel
theorem dX10_areOneText_67 : decode cX10_areOneText 67 = .ok (.imul, 1) := by decide +kernel
theorem dX10_areOneText_68 : decode cX10_areOneText 68 = .ok (.iload_n 3, 1) := by decide +kernel
theorem dX10_areOneText_69 : decode cX10_areOneText 69 = .ok (.iadd, 1) := by decide +kernel
theorem dX10_areOneText_70 : decode cX10_areOneText 70 = .ok (.baload, 1) := by decide +kernel
theorem dX10_areOneText_71 : decode cX10_areOneText 71 = .ok (.if_icmp .eq 5, 3) := by decide +kernel
theorem dX10_areOneText_74 : decode cX10_areOneText 74 = .ok (.iconst 0, 1) := by decide +kernel
theorem dX10_areOneText_75 : decode cX10_areOneText 75 = .ok (.ireturn, 1) := by decide +kernel
theorem dX10_areOneText_76 : decode cX10_areOneText 76 = .ok (.iinc 3 1, 3) := by decide +kernel
theorem dX10_areOneText_79 : decode cX10_areOneText 79 = .ok (.goto (-40), 3) := by decide +kernel
theorem dX10_areOneText_82 : decode cX10_areOneText 82 = .ok (.iconst 1, 1) := by decide +kernel
theorem dX10_areOneText_83 : decode cX10_areOneText 83 = .ok (.ireturn, 1) := by decide +kernel
theorem dX10_copied_0 : decode cX10_copied 0 = .ok (.iload_n 1, 1) := by decide +kernel
theorem dX10_copied_1 : decode cX10_copied 1 = .ok (.invokestatic 341, 3) := by decide +kernel
theorem dX10_copied_4 : decode cX10_copied 4 = .ok (.ifCond .eq 19, 3) := by decide +kernel
theorem dX10_copied_7 : decode cX10_copied 7 = .ok (.iload_n 2, 1) := by decide +kernel
theorem dX10_copied_8 : decode cX10_copied 8 = .ok (.invokestatic 341, 3) := by decide +kernel
theorem dX10_copied_11 : decode cX10_copied 11 = .ok (.ifCond .eq 12, 3) := by decide +kernel
theorem dX10_copied_14 : decode cX10_copied 14 = .ok (.iload_n 1, 1) := by decide +kernel
theorem dX10_copied_15 : decode cX10_copied 15 = .ok (.iload_n 2, 1) := by decide +kernel
theorem dX10_copied_16 : decode cX10_copied 16 = .ok (.if_icmp .eq 7, 3) := by decide +kernel
theorem dX10_copied_19 : decode cX10_copied 19 = .ok (.iload_n 3, 1) := by decide +kernel
theorem dX10_copied_20 : decode cX10_copied 20 = .ok (.ifCond .ge 5, 3) := by decide +kernel
theorem dX10_copied_23 : decode cX10_copied 23 = .ok (.iconst (-1), 1) := by decide +kernel
theorem dX10_copied_24 : decode cX10_copied 24 = .ok (.ireturn, 1) := by decide +kernel
theorem dX10_copied_25 : decode cX10_copied 25 = .ok (.iconst 0, 1) := by decide +kernel
theorem dX10_copied_26 : decode cX10_copied 26 = .ok (.istore 4, 2) := by decide +kernel
theorem dX10_copied_28 : decode cX10_copied 28 = .ok (.iconst 0, 1) := by decide +kernel
theorem dX10_copied_29 : decode cX10_copied 29 = .ok (.istore 5, 2) := by decide +kernel
theorem dX10_copied_31 : decode cX10_copied 31 = .ok (.iload 5, 2) := by decide +kernel
theorem dX10_copied_33 : decode cX10_copied 33 = .ok (.bipush 64, 2) := by decide +kernel
theorem dX10_copied_35 : decode cX10_copied 35 = .ok (.if_icmp .ge 71, 3) := by decide +kernel
theorem dX10_copied_38 : decode cX10_copied 38 = .ok (.aload_n 0, 1) := by decide +kernel
theorem dX10_copied_39 : decode cX10_copied 39 = .ok (.getfield 48, 3) := by decide +kernel
theorem dX10_copied_42 : decode cX10_copied 42 = .ok (.iload 5, 2) := by decide +kernel
theorem dX10_copied_44 : decode cX10_copied 44 = .ok (.baload, 1) := by decide +kernel
theorem dX10_copied_45 : decode cX10_copied 45 = .ok (.ifCond .ne 55, 3) := by decide +kernel
theorem dX10_copied_48 : decode cX10_copied 48 = .ok (.aload_n 0, 1) := by decide +kernel
theorem dX10_copied_49 : decode cX10_copied 49 = .ok (.bipush 64, 2) := by decide +kernel
theorem dX10_copied_51 : decode cX10_copied 51 = .ok (.iload_n 1, 1) := by decide +kernel
theorem dX10_copied_52 : decode cX10_copied 52 = .ok (.imul, 1) := by decide +kernel
theorem dX10_copied_53 : decode cX10_copied 53 = .ok (.iload 5, 2) := by decide +kernel
theorem dX10_copied_55 : decode cX10_copied 55 = .ok (.iadd, 1) := by decide +kernel
theorem dX10_copied_56 : decode cX10_copied 56 = .ok (.bipush 64, 2) := by decide +kernel
theorem dX10_copied_58 : decode cX10_copied 58 = .ok (.iload_n 2, 1) := by decide +kernel
theorem dX10_copied_59 : decode cX10_copied 59 = .ok (.imul, 1) := by decide +kernel
theorem dX10_copied_60 : decode cX10_copied 60 = .ok (.iload 5, 2) := by decide +kernel
theorem dX10_copied_62 : decode cX10_copied 62 = .ok (.iadd, 1) := by decide +kernel
theorem dX10_copied_63 : decode cX10_copied 63 = .ok (.invokevirtual 350, 3) := by decide +kernel
theorem dX10_copied_66 : decode cX10_copied 66 = .ok (.ifCond .eq 34, 3) := by decide +kernel
theorem dX10_copied_69 : decode cX10_copied 69 = .ok (.aload_n 0, 1) := by decide +kernel
theorem dX10_copied_70 : decode cX10_copied 70 = .ok (.iload 5, 2) := by decide +kernel
theorem dX10_copied_72 : decode cX10_copied 72 = .ok (.bipush 64, 2) := by decide +kernel
theorem dX10_copied_74 : decode cX10_copied 74 = .ok (.iload_n 1, 1) := by decide +kernel
theorem dX10_copied_75 : decode cX10_copied 75 = .ok (.imul, 1) := by decide +kernel
theorem dX10_copied_76 : decode cX10_copied 76 = .ok (.iload 5, 2) := by decide +kernel
theorem dX10_copied_78 : decode cX10_copied 78 = .ok (.iadd, 1) := by decide +kernel
theorem dX10_copied_79 : decode cX10_copied 79 = .ok (.invokevirtual 350, 3) := by decide +kernel
theorem dX10_copied_82 : decode cX10_copied 82 = .ok (.ifCond .eq 6, 3) := by decide +kernel
theorem dX10_copied_85 : decode cX10_copied 85 = .ok (.goto 15, 3) := by decide +kernel
theorem dX10_copied_88 : decode cX10_copied 88 = .ok (.iload 4, 2) := by decide +kernel
theorem dX10_copied_90 : decode cX10_copied 90 = .ok (.iload_n 3, 1) := by decide +kernel
theorem dX10_copied_91 : decode cX10_copied 91 = .ok (.if_icmp .ne 6, 3) := by decide +kernel
theorem dX10_copied_94 : decode cX10_copied 94 = .ok (.iload 5, 2) := by decide +kernel
theorem dX10_copied_96 : decode cX10_copied 96 = .ok (.ireturn, 1) := by decide +kernel
theorem dX10_copied_97 : decode cX10_copied 97 = .ok (.iinc 4 1, 3) := by decide +kernel
theorem dX10_copied_100 : decode cX10_copied 100 = .ok (.iinc 5 1, 3) := by decide +kernel
theorem dX10_copied_103 : decode cX10_copied 103 = .ok (.goto (-72), 3) := by decide +kernel
theorem dX10_copied_106 : decode cX10_copied 106 = .ok (.iconst (-1), 1) := by decide +kernel
theorem dX10_copied_107 : decode cX10_copied 107 = .ok (.ireturn, 1) := by decide +kernel
theorem dX10_comesTo_0 : decode cX10_comesTo 0 = .ok (.aload_n 0, 1) := by decide +kernel
theorem dX10_comesTo_1 : decode cX10_comesTo 1 = .ok (.iload_n 1, 1) := by decide +kernel
theorem dX10_comesTo_2 : decode cX10_comesTo 2 = .ok (.iload_n 2, 1) := by decide +kernel
theorem dX10_comesTo_3 : decode cX10_comesTo 3 = .ok (.invokevirtual 250, 3) := by decide +kernel
theorem dX10_comesTo_6 : decode cX10_comesTo 6 = .ok (.lstore 4, 2) := by decide +kernel
theorem dX10_comesTo_8 : decode cX10_comesTo 8 = .ok (.lconst 0, 1) := by decide +kernel
theorem dX10_comesTo_9 : decode cX10_comesTo 9 = .ok (.lstore 6, 2) := by decide +kernel
theorem dX10_comesTo_11 : decode cX10_comesTo 11 = .ok (.lload 4, 2) := by decide +kernel
theorem dX10_comesTo_13 : decode cX10_comesTo 13 = .ok (.lload 6, 2) := by decide +kernel
theorem dX10_comesTo_15 : decode cX10_comesTo 15 = .ok (.lcmp, 1) := by decide +kernel
theorem dX10_comesTo_16 : decode cX10_comesTo 16 = .ok (.ifCond .eq 66, 3) := by decide +kernel
theorem dX10_comesTo_19 : decode cX10_comesTo 19 = .ok (.iconst 0, 1) := by decide +kernel
theorem dX10_comesTo_20 : decode cX10_comesTo 20 = .ok (.istore 8, 2) := by decide +kernel
theorem dX10_comesTo_22 : decode cX10_comesTo 22 = .ok (.iload 8, 2) := by decide +kernel
theorem dX10_comesTo_24 : decode cX10_comesTo 24 = .ok (.bipush 64, 2) := by decide +kernel
theorem dX10_comesTo_26 : decode cX10_comesTo 26 = .ok (.if_icmp .ge 53, 3) := by decide +kernel
theorem dX10_comesTo_29 : decode cX10_comesTo 29 = .ok (.lload 4, 2) := by decide +kernel
theorem dX10_comesTo_31 : decode cX10_comesTo 31 = .ok (.iload 8, 2) := by decide +kernel
theorem dX10_comesTo_33 : decode cX10_comesTo 33 = .ok (.invokestatic 242, 3) := by decide +kernel
theorem dX10_comesTo_36 : decode cX10_comesTo 36 = .ok (.ifCond .eq 37, 3) := by decide +kernel
theorem dX10_comesTo_39 : decode cX10_comesTo 39 = .ok (.lload 6, 2) := by decide +kernel
theorem dX10_comesTo_41 : decode cX10_comesTo 41 = .ok (.iload 8, 2) := by decide +kernel
theorem dX10_comesTo_43 : decode cX10_comesTo 43 = .ok (.invokestatic 242, 3) := by decide +kernel
theorem dX10_comesTo_46 : decode cX10_comesTo 46 = .ok (.ifCond .eq 6, 3) := by decide +kernel
theorem dX10_comesTo_49 : decode cX10_comesTo 49 = .ok (.goto 24, 3) := by decide +kernel
theorem dX10_comesTo_52 : decode cX10_comesTo 52 = .ok (.lload 6, 2) := by decide +kernel
theorem dX10_comesTo_54 : decode cX10_comesTo 54 = .ok (.lconst 1, 1) := by decide +kernel
theorem dX10_comesTo_55 : decode cX10_comesTo 55 = .ok (.iload 8, 2) := by decide +kernel
theorem dX10_comesTo_57 : decode cX10_comesTo 57 = .ok (.lshl, 1) := by decide +kernel
theorem dX10_comesTo_58 : decode cX10_comesTo 58 = .ok (.lor, 1) := by decide +kernel
theorem dX10_comesTo_59 : decode cX10_comesTo 59 = .ok (.lstore 6, 2) := by decide +kernel
theorem dX10_comesTo_61 : decode cX10_comesTo 61 = .ok (.lload 4, 2) := by decide +kernel
theorem dX10_comesTo_63 : decode cX10_comesTo 63 = .ok (.aload_n 0, 1) := by decide +kernel
theorem dX10_comesTo_64 : decode cX10_comesTo 64 = .ok (.iload_n 1, 1) := by decide +kernel
theorem dX10_comesTo_65 : decode cX10_comesTo 65 = .ok (.iload 8, 2) := by decide +kernel
theorem dX10_comesTo_67 : decode cX10_comesTo 67 = .ok (.invokevirtual 250, 3) := by decide +kernel
theorem dX10_comesTo_70 : decode cX10_comesTo 70 = .ok (.lor, 1) := by decide +kernel
theorem dX10_comesTo_71 : decode cX10_comesTo 71 = .ok (.lstore 4, 2) := by decide +kernel
theorem dX10_comesTo_73 : decode cX10_comesTo 73 = .ok (.iinc 8 1, 3) := by decide +kernel
theorem dX10_comesTo_76 : decode cX10_comesTo 76 = .ok (.goto (-54), 3) := by decide +kernel
theorem dX10_comesTo_79 : decode cX10_comesTo 79 = .ok (.goto (-68), 3) := by decide +kernel
theorem dX10_comesTo_82 : decode cX10_comesTo 82 = .ok (.lload 4, 2) := by decide +kernel
theorem dX10_comesTo_84 : decode cX10_comesTo 84 = .ok (.iload_n 3, 1) := by decide +kernel
theorem dX10_comesTo_85 : decode cX10_comesTo 85 = .ok (.invokestatic 242, 3) := by decide +kernel
theorem dX10_comesTo_88 : decode cX10_comesTo 88 = .ok (.ireturn, 1) := by decide +kernel
theorem dX10_look_0 : decode cX10_look 0 = .ok (.iload_n 1, 1) := by decide +kernel
theorem dX10_look_1 : decode cX10_look 1 = .ok (.invokestatic 115, 3) := by decide +kernel
theorem dX10_look_4 : decode cX10_look 4 = .ok (.ifCond .eq 10, 3) := by decide +kernel
theorem dX10_look_7 : decode cX10_look 7 = .ok (.iload_n 2, 1) := by decide +kernel
theorem dX10_look_8 : decode cX10_look 8 = .ok (.invokestatic 119, 3) := by decide +kernel
theorem dX10_look_11 : decode cX10_look 11 = .ok (.ifCond .ne 5, 3) := by decide +kernel
theorem dX10_look_14 : decode cX10_look 14 = .ok (.iconst (-1), 1) := by decide +kernel
theorem dX10_look_15 : decode cX10_look 15 = .ok (.ireturn, 1) := by decide +kernel
theorem dX10_look_16 : decode cX10_look 16 = .ok (.bipush 64, 2) := by decide +kernel
theorem dX10_look_18 : decode cX10_look 18 = .ok (.iload_n 1, 1) := by decide +kernel
theorem dX10_look_19 : decode cX10_look 19 = .ok (.imul, 1) := by decide +kernel
theorem dX10_look_20 : decode cX10_look 20 = .ok (.iload_n 2, 1) := by decide +kernel
theorem dX10_look_21 : decode cX10_look 21 = .ok (.iadd, 1) := by decide +kernel
theorem dX10_look_22 : decode cX10_look 22 = .ok (.istore 4, 2) := by decide +kernel
theorem dX10_look_24 : decode cX10_look 24 = .ok (.iconst 0, 1) := by decide +kernel
theorem dX10_look_25 : decode cX10_look 25 = .ok (.istore 5, 2) := by decide +kernel
theorem dX10_look_27 : decode cX10_look 27 = .ok (.aload_n 0, 1) := by decide +kernel
theorem dX10_look_28 : decode cX10_look 28 = .ok (.getfield 13, 3) := by decide +kernel
theorem dX10_look_31 : decode cX10_look 31 = .ok (.iload 4, 2) := by decide +kernel
theorem dX10_look_33 : decode cX10_look 33 = .ok (.iaload, 1) := by decide +kernel
theorem dX10_look_34 : decode cX10_look 34 = .ok (.iconst 2, 1) := by decide +kernel
theorem dX10_look_35 : decode cX10_look 35 = .ok (.if_icmp .ne 39, 3) := by decide +kernel
theorem dX10_look_38 : decode cX10_look 38 = .ok (.iload_n 3, 1) := by decide +kernel
theorem dX10_look_39 : decode cX10_look 39 = .ok (.bipush 10, 2) := by decide +kernel
theorem dX10_look_41 : decode cX10_look 41 = .ok (.isub, 1) := by decide +kernel
theorem dX10_look_42 : decode cX10_look 42 = .ok (.iconst 0, 1) := by decide +kernel
theorem dX10_look_43 : decode cX10_look 43 = .ok (.aload_n 0, 1) := by decide +kernel
theorem dX10_look_44 : decode cX10_look 44 = .ok (.getfield 20, 3) := by decide +kernel
theorem dX10_look_47 : decode cX10_look 47 = .ok (.iload 4, 2) := by decide +kernel
theorem dX10_look_49 : decode cX10_look 49 = .ok (.iaload, 1) := by decide +kernel
theorem dX10_look_50 : decode cX10_look 50 = .ok (.iconst 1, 1) := by decide +kernel
theorem dX10_look_51 : decode cX10_look 51 = .ok (.isub, 1) := by decide +kernel
theorem dX10_look_52 : decode cX10_look 52 = .ok (.invokestatic 104, 3) := by decide +kernel
theorem dX10_look_55 : decode cX10_look 55 = .ok (.ifCond .eq 19, 3) := by decide +kernel
theorem dX10_look_58 : decode cX10_look 58 = .ok (.aload_n 0, 1) := by decide +kernel
theorem dX10_look_59 : decode cX10_look 59 = .ok (.getfield 23, 3) := by decide +kernel
theorem dX10_look_62 : decode cX10_look 62 = .ok (.bipush 40, 2) := by decide +kernel
theorem dX10_look_64 : decode cX10_look 64 = .ok (.iload 4, 2) := by decide +kernel
theorem dX10_look_66 : decode cX10_look 66 = .ok (.imul, 1) := by decide +kernel
theorem dX10_look_67 : decode cX10_look 67 = .ok (.iload_n 3, 1) := by decide +kernel
theorem dX10_look_68 : decode cX10_look 68 = .ok (.iadd, 1) := by decide +kernel
theorem dX10_look_69 : decode cX10_look 69 = .ok (.bipush 10, 2) := by decide +kernel
theorem dX10_look_71 : decode cX10_look 71 = .ok (.isub, 1) := by decide +kernel
theorem dX10_look_72 : decode cX10_look 72 = .ok (.baload, 1) := by decide +kernel
theorem dX10_look_73 : decode cX10_look 73 = .ok (.ireturn, 1) := by decide +kernel
theorem dX10_look_74 : decode cX10_look 74 = .ok (.iload_n 3, 1) := by decide +kernel
theorem dX10_look_75 : decode cX10_look 75 = .ok (.tableswitch 116 0 2 #[25, 33, 76], 25) := by decide +kernel
theorem dX10_look_100 : decode cX10_look 100 = .ok (.aload_n 0, 1) := by decide +kernel
theorem dX10_look_101 : decode cX10_look 101 = .ok (.getfield 13, 3) := by decide +kernel
theorem dX10_look_104 : decode cX10_look 104 = .ok (.iload 4, 2) := by decide +kernel
theorem dX10_look_106 : decode cX10_look 106 = .ok (.iaload, 1) := by decide +kernel
theorem dX10_look_107 : decode cX10_look 107 = .ok (.ireturn, 1) := by decide +kernel
theorem dX10_look_108 : decode cX10_look 108 = .ok (.aload_n 0, 1) := by decide +kernel
theorem dX10_look_109 : decode cX10_look 109 = .ok (.getfield 13, 3) := by decide +kernel
theorem dX10_look_112 : decode cX10_look 112 = .ok (.iload 4, 2) := by decide +kernel
theorem dX10_look_114 : decode cX10_look 114 = .ok (.iaload, 1) := by decide +kernel
theorem dX10_look_115 : decode cX10_look 115 = .ok (.ifCond .ne 7, 3) := by decide +kernel
theorem dX10_look_118 : decode cX10_look 118 = .ok (.iconst 0, 1) := by decide +kernel
theorem dX10_look_119 : decode cX10_look 119 = .ok (.goto 31, 3) := by decide +kernel
theorem dX10_look_122 : decode cX10_look 122 = .ok (.aload_n 0, 1) := by decide +kernel
theorem dX10_look_123 : decode cX10_look 123 = .ok (.getfield 13, 3) := by decide +kernel
theorem dX10_look_126 : decode cX10_look 126 = .ok (.iload 4, 2) := by decide +kernel
theorem dX10_look_128 : decode cX10_look 128 = .ok (.iaload, 1) := by decide +kernel
theorem dX10_look_129 : decode cX10_look 129 = .ok (.iconst 1, 1) := by decide +kernel
theorem dX10_look_130 : decode cX10_look 130 = .ok (.if_icmp .ne 13, 3) := by decide +kernel
theorem dX10_look_133 : decode cX10_look 133 = .ok (.aload_n 0, 1) := by decide +kernel
theorem dX10_look_134 : decode cX10_look 134 = .ok (.getfield 17, 3) := by decide +kernel
theorem dX10_look_137 : decode cX10_look 137 = .ok (.iload 4, 2) := by decide +kernel
theorem dX10_look_139 : decode cX10_look 139 = .ok (.iaload, 1) := by decide +kernel
theorem dX10_look_140 : decode cX10_look 140 = .ok (.goto 10, 3) := by decide +kernel
theorem dX10_look_143 : decode cX10_look 143 = .ok (.aload_n 0, 1) := by decide +kernel
theorem dX10_look_144 : decode cX10_look 144 = .ok (.getfield 20, 3) := by decide +kernel
theorem dX10_look_147 : decode cX10_look 147 = .ok (.iload 4, 2) := by decide +kernel
theorem dX10_look_149 : decode cX10_look 149 = .ok (.iaload, 1) := by decide +kernel
theorem dX10_look_150 : decode cX10_look 150 = .ok (.ireturn, 1) := by decide +kernel
theorem dX10_look_151 : decode cX10_look 151 = .ok (.iconst 0, 1) := by decide +kernel
theorem dX10_look_152 : decode cX10_look 152 = .ok (.istore 6, 2) := by decide +kernel
theorem dX10_look_154 : decode cX10_look 154 = .ok (.iload 6, 2) := by decide +kernel
theorem dX10_look_156 : decode cX10_look 156 = .ok (.bipush 64, 2) := by decide +kernel
theorem dX10_look_158 : decode cX10_look 158 = .ok (.if_icmp .ge 30, 3) := by decide +kernel
theorem dX10_look_161 : decode cX10_look 161 = .ok (.iload 5, 2) := by decide +kernel
theorem dX10_look_163 : decode cX10_look 163 = .ok (.aload_n 0, 1) := by decide +kernel
theorem dX10_look_164 : decode cX10_look 164 = .ok (.iload_n 1, 1) := by decide +kernel
theorem dX10_look_165 : decode cX10_look 165 = .ok (.iload 6, 2) := by decide +kernel
theorem dX10_look_167 : decode cX10_look 167 = .ok (.iload_n 2, 1) := by decide +kernel
theorem dX10_look_168 : decode cX10_look 168 = .ok (.invokevirtual 353, 3) := by decide +kernel
theorem dX10_look_171 : decode cX10_look 171 = .ok (.ifCond .eq 7, 3) := by decide +kernel
theorem dX10_look_174 : decode cX10_look 174 = .ok (.iconst 1, 1) := by decide +kernel
theorem dX10_look_175 : decode cX10_look 175 = .ok (.goto 4, 3) := by decide +kernel
theorem dX10_look_178 : decode cX10_look 178 = .ok (.iconst 0, 1) := by decide +kernel
theorem dX10_look_179 : decode cX10_look 179 = .ok (.iadd, 1) := by decide +kernel
theorem dX10_look_180 : decode cX10_look 180 = .ok (.istore 5, 2) := by decide +kernel
theorem dX10_look_182 : decode cX10_look 182 = .ok (.iinc 6 1, 3) := by decide +kernel
theorem dX10_look_185 : decode cX10_look 185 = .ok (.goto (-31), 3) := by decide +kernel
theorem dX10_look_188 : decode cX10_look 188 = .ok (.iload 5, 2) := by decide +kernel
theorem dX10_look_190 : decode cX10_look 190 = .ok (.ireturn, 1) := by decide +kernel
theorem dX10_look_191 : decode cX10_look 191 = .ok (.iconst (-1), 1) := by decide +kernel
theorem dX10_look_192 : decode cX10_look 192 = .ok (.ireturn, 1) := by decide +kernel
theorem dX10_count_0 : decode cX10_count 0 = .ok (.iconst 0, 1) := by decide +kernel
theorem dX10_count_1 : decode cX10_count 1 = .ok (.istore_n 2, 1) := by decide +kernel
theorem dX10_count_2 : decode cX10_count 2 = .ok (.iload_n 1, 1) := by decide +kernel
theorem dX10_count_3 : decode cX10_count 3 = .ok (.bipush 100, 2) := by decide +kernel
theorem dX10_count_5 : decode cX10_count 5 = .ok (.isub, 1) := by decide +kernel
theorem dX10_count_6 : decode cX10_count 6 = .ok (.invokestatic 119, 3) := by decide +kernel
theorem dX10_count_9 : decode cX10_count 9 = .ok (.ifCond .eq 13, 3) := by decide +kernel
theorem dX10_count_12 : decode cX10_count 12 = .ok (.aload_n 0, 1) := by decide +kernel
theorem dX10_count_13 : decode cX10_count 13 = .ok (.getfield 52, 3) := by decide +kernel
theorem dX10_count_16 : decode cX10_count 16 = .ok (.iload_n 1, 1) := by decide +kernel
theorem dX10_count_17 : decode cX10_count 17 = .ok (.bipush 100, 2) := by decide +kernel
theorem dX10_count_19 : decode cX10_count 19 = .ok (.isub, 1) := by decide +kernel
theorem dX10_count_20 : decode cX10_count 20 = .ok (.iaload, 1) := by decide +kernel
theorem dX10_count_21 : decode cX10_count 21 = .ok (.ireturn, 1) := by decide +kernel
theorem dX10_count_22 : decode cX10_count 22 = .ok (.iload_n 1, 1) := by decide +kernel
theorem dX10_count_23 : decode cX10_count 23 = .ok (.tableswitch 78 0 4 #[33, 38, 43, 48, 73], 33) := by decide +kernel
theorem dX10_count_56 : decode cX10_count 56 = .ok (.aload_n 0, 1) := by decide +kernel
theorem dX10_count_57 : decode cX10_count 57 = .ok (.getfield 204, 3) := by decide +kernel
theorem dX10_count_60 : decode cX10_count 60 = .ok (.ireturn, 1) := by decide +kernel
theorem dX10_count_61 : decode cX10_count 61 = .ok (.aload_n 0, 1) := by decide +kernel
theorem dX10_count_62 : decode cX10_count 62 = .ok (.getfield 207, 3) := by decide +kernel
theorem dX10_count_65 : decode cX10_count 65 = .ok (.ireturn, 1) := by decide +kernel
theorem dX10_count_66 : decode cX10_count 66 = .ok (.aload_n 0, 1) := by decide +kernel
theorem dX10_count_67 : decode cX10_count 67 = .ok (.getfield 210, 3) := by decide +kernel
theorem dX10_count_70 : decode cX10_count 70 = .ok (.ireturn, 1) := by decide +kernel
theorem dX10_count_71 : decode cX10_count 71 = .ok (.iconst 0, 1) := by decide +kernel
theorem dX10_count_72 : decode cX10_count 72 = .ok (.istore_n 3, 1) := by decide +kernel
theorem dX10_count_73 : decode cX10_count 73 = .ok (.iload_n 3, 1) := by decide +kernel
theorem dX10_count_74 : decode cX10_count 74 = .ok (.bipush 64, 2) := by decide +kernel
theorem dX10_count_76 : decode cX10_count 76 = .ok (.if_icmp .ge 18, 3) := by decide +kernel
theorem dX10_count_79 : decode cX10_count 79 = .ok (.iload_n 2, 1) := by decide +kernel
theorem dX10_count_80 : decode cX10_count 80 = .ok (.aload_n 0, 1) := by decide +kernel
theorem dX10_count_81 : decode cX10_count 81 = .ok (.getfield 52, 3) := by decide +kernel
theorem dX10_count_84 : decode cX10_count 84 = .ok (.iload_n 3, 1) := by decide +kernel
theorem dX10_count_85 : decode cX10_count 85 = .ok (.iaload, 1) := by decide +kernel
theorem dX10_count_86 : decode cX10_count 86 = .ok (.iadd, 1) := by decide +kernel
theorem dX10_count_87 : decode cX10_count 87 = .ok (.istore_n 2, 1) := by decide +kernel
theorem dX10_count_88 : decode cX10_count 88 = .ok (.iinc 3 1, 3) := by decide +kernel
theorem dX10_count_91 : decode cX10_count 91 = .ok (.goto (-18), 3) := by decide +kernel
theorem dX10_count_94 : decode cX10_count 94 = .ok (.iload_n 2, 1) := by decide +kernel
theorem dX10_count_95 : decode cX10_count 95 = .ok (.ireturn, 1) := by decide +kernel
theorem dX10_count_96 : decode cX10_count 96 = .ok (.aload_n 0, 1) := by decide +kernel
theorem dX10_count_97 : decode cX10_count 97 = .ok (.getfield 108, 3) := by decide +kernel
theorem dX10_count_100 : decode cX10_count 100 = .ok (.ireturn, 1) := by decide +kernel
theorem dX10_count_101 : decode cX10_count 101 = .ok (.iconst (-1), 1) := by decide +kernel
theorem dX10_count_102 : decode cX10_count 102 = .ok (.ireturn, 1) := by decide +kernel
theorem dJ13_bitCount_95d88_0 : decode cJ13_bitCount_95d88 0 = .ok (.lload_n 0, 1) := by decide +kernel
theorem dJ13_bitCount_95d88_1 : decode cJ13_bitCount_95d88 1 = .ok (.lload_n 0, 1) := by decide +kernel
theorem dJ13_bitCount_95d88_2 : decode cJ13_bitCount_95d88 2 = .ok (.iconst 1, 1) := by decide +kernel
theorem dJ13_bitCount_95d88_3 : decode cJ13_bitCount_95d88 3 = .ok (.lushr, 1) := by decide +kernel
theorem dJ13_bitCount_95d88_4 : decode cJ13_bitCount_95d88 4 = .ok (.ldc2_w 314, 3) := by decide +kernel
theorem dJ13_bitCount_95d88_7 : decode cJ13_bitCount_95d88 7 = .ok (.land, 1) := by decide +kernel
theorem dJ13_bitCount_95d88_8 : decode cJ13_bitCount_95d88 8 = .ok (.lsub, 1) := by decide +kernel
theorem dJ13_bitCount_95d88_9 : decode cJ13_bitCount_95d88 9 = .ok (.lstore_n 0, 1) := by decide +kernel
theorem dJ13_bitCount_95d88_10 : decode cJ13_bitCount_95d88 10 = .ok (.lload_n 0, 1) := by decide +kernel
theorem dJ13_bitCount_95d88_11 : decode cJ13_bitCount_95d88 11 = .ok (.ldc2_w 316, 3) := by decide +kernel
theorem dJ13_bitCount_95d88_14 : decode cJ13_bitCount_95d88 14 = .ok (.land, 1) := by decide +kernel
theorem dJ13_bitCount_95d88_15 : decode cJ13_bitCount_95d88 15 = .ok (.lload_n 0, 1) := by decide +kernel
theorem dJ13_bitCount_95d88_16 : decode cJ13_bitCount_95d88 16 = .ok (.iconst 2, 1) := by decide +kernel
theorem dJ13_bitCount_95d88_17 : decode cJ13_bitCount_95d88 17 = .ok (.lushr, 1) := by decide +kernel
theorem dJ13_bitCount_95d88_18 : decode cJ13_bitCount_95d88 18 = .ok (.ldc2_w 316, 3) := by decide +kernel
theorem dJ13_bitCount_95d88_21 : decode cJ13_bitCount_95d88 21 = .ok (.land, 1) := by decide +kernel
theorem dJ13_bitCount_95d88_22 : decode cJ13_bitCount_95d88 22 = .ok (.ladd, 1) := by decide +kernel
theorem dJ13_bitCount_95d88_23 : decode cJ13_bitCount_95d88 23 = .ok (.lstore_n 0, 1) := by decide +kernel
theorem dJ13_bitCount_95d88_24 : decode cJ13_bitCount_95d88 24 = .ok (.lload_n 0, 1) := by decide +kernel
theorem dJ13_bitCount_95d88_25 : decode cJ13_bitCount_95d88 25 = .ok (.lload_n 0, 1) := by decide +kernel
theorem dJ13_bitCount_95d88_26 : decode cJ13_bitCount_95d88 26 = .ok (.iconst 4, 1) := by decide +kernel
theorem dJ13_bitCount_95d88_27 : decode cJ13_bitCount_95d88 27 = .ok (.lushr, 1) := by decide +kernel
theorem dJ13_bitCount_95d88_28 : decode cJ13_bitCount_95d88 28 = .ok (.ladd, 1) := by decide +kernel
theorem dJ13_bitCount_95d88_29 : decode cJ13_bitCount_95d88 29 = .ok (.ldc2_w 318, 3) := by decide +kernel
theorem dJ13_bitCount_95d88_32 : decode cJ13_bitCount_95d88 32 = .ok (.land, 1) := by decide +kernel
theorem dJ13_bitCount_95d88_33 : decode cJ13_bitCount_95d88 33 = .ok (.lstore_n 0, 1) := by decide +kernel
theorem dJ13_bitCount_95d88_34 : decode cJ13_bitCount_95d88 34 = .ok (.lload_n 0, 1) := by decide +kernel
theorem dJ13_bitCount_95d88_35 : decode cJ13_bitCount_95d88 35 = .ok (.lload_n 0, 1) := by decide +kernel
theorem dJ13_bitCount_95d88_36 : decode cJ13_bitCount_95d88 36 = .ok (.bipush 8, 2) := by decide +kernel
theorem dJ13_bitCount_95d88_38 : decode cJ13_bitCount_95d88 38 = .ok (.lushr, 1) := by decide +kernel
theorem dJ13_bitCount_95d88_39 : decode cJ13_bitCount_95d88 39 = .ok (.ladd, 1) := by decide +kernel
theorem dJ13_bitCount_95d88_40 : decode cJ13_bitCount_95d88 40 = .ok (.lstore_n 0, 1) := by decide +kernel
theorem dJ13_bitCount_95d88_41 : decode cJ13_bitCount_95d88 41 = .ok (.lload_n 0, 1) := by decide +kernel
theorem dJ13_bitCount_95d88_42 : decode cJ13_bitCount_95d88 42 = .ok (.lload_n 0, 1) := by decide +kernel
theorem dJ13_bitCount_95d88_43 : decode cJ13_bitCount_95d88 43 = .ok (.bipush 16, 2) := by decide +kernel
theorem dJ13_bitCount_95d88_45 : decode cJ13_bitCount_95d88 45 = .ok (.lushr, 1) := by decide +kernel
theorem dJ13_bitCount_95d88_46 : decode cJ13_bitCount_95d88 46 = .ok (.ladd, 1) := by decide +kernel
theorem dJ13_bitCount_95d88_47 : decode cJ13_bitCount_95d88 47 = .ok (.lstore_n 0, 1) := by decide +kernel
theorem dJ13_bitCount_95d88_48 : decode cJ13_bitCount_95d88 48 = .ok (.lload_n 0, 1) := by decide +kernel
theorem dJ13_bitCount_95d88_49 : decode cJ13_bitCount_95d88 49 = .ok (.lload_n 0, 1) := by decide +kernel
theorem dJ13_bitCount_95d88_50 : decode cJ13_bitCount_95d88 50 = .ok (.bipush 32, 2) := by decide +kernel
theorem dJ13_bitCount_95d88_52 : decode cJ13_bitCount_95d88 52 = .ok (.lushr, 1) := by decide +kernel
theorem dJ13_bitCount_95d88_53 : decode cJ13_bitCount_95d88 53 = .ok (.ladd, 1) := by decide +kernel
theorem dJ13_bitCount_95d88_54 : decode cJ13_bitCount_95d88 54 = .ok (.lstore_n 0, 1) := by decide +kernel
theorem dJ13_bitCount_95d88_55 : decode cJ13_bitCount_95d88 55 = .ok (.lload_n 0, 1) := by decide +kernel
theorem dJ13_bitCount_95d88_56 : decode cJ13_bitCount_95d88 56 = .ok (.l2i, 1) := by decide +kernel
theorem dJ13_bitCount_95d88_57 : decode cJ13_bitCount_95d88 57 = .ok (.bipush 127, 2) := by decide +kernel
theorem dJ13_bitCount_95d88_59 : decode cJ13_bitCount_95d88 59 = .ok (.iand, 1) := by decide +kernel
theorem dJ13_bitCount_95d88_60 : decode cJ13_bitCount_95d88 60 = .ok (.ireturn, 1) := by decide +kernel
theorem dJ9_floorDiv_f86c9_0 : decode cJ9_floorDiv_f86c9 0 = .ok (.lload_n 0, 1) := by decide +kernel
theorem dJ9_floorDiv_f86c9_1 : decode cJ9_floorDiv_f86c9 1 = .ok (.lload_n 2, 1) := by decide +kernel
theorem dJ9_floorDiv_f86c9_2 : decode cJ9_floorDiv_f86c9 2 = .ok (.ldiv, 1) := by decide +kernel
theorem dJ9_floorDiv_f86c9_3 : decode cJ9_floorDiv_f86c9 3 = .ok (.lstore 4, 2) := by decide +kernel
theorem dJ9_floorDiv_f86c9_5 : decode cJ9_floorDiv_f86c9 5 = .ok (.lload_n 0, 1) := by decide +kernel
theorem dJ9_floorDiv_f86c9_6 : decode cJ9_floorDiv_f86c9 6 = .ok (.lload_n 2, 1) := by decide +kernel
theorem dJ9_floorDiv_f86c9_7 : decode cJ9_floorDiv_f86c9 7 = .ok (.lxor, 1) := by decide +kernel
theorem dJ9_floorDiv_f86c9_8 : decode cJ9_floorDiv_f86c9 8 = .ok (.lconst 0, 1) := by decide +kernel
theorem dJ9_floorDiv_f86c9_9 : decode cJ9_floorDiv_f86c9 9 = .ok (.lcmp, 1) := by decide +kernel
theorem dJ9_floorDiv_f86c9_10 : decode cJ9_floorDiv_f86c9 10 = .ok (.ifCond .ge 17, 3) := by decide +kernel
theorem dJ9_floorDiv_f86c9_13 : decode cJ9_floorDiv_f86c9 13 = .ok (.lload 4, 2) := by decide +kernel
theorem dJ9_floorDiv_f86c9_15 : decode cJ9_floorDiv_f86c9 15 = .ok (.lload_n 2, 1) := by decide +kernel
theorem dJ9_floorDiv_f86c9_16 : decode cJ9_floorDiv_f86c9 16 = .ok (.lmul, 1) := by decide +kernel
theorem dJ9_floorDiv_f86c9_17 : decode cJ9_floorDiv_f86c9 17 = .ok (.lload_n 0, 1) := by decide +kernel
theorem dJ9_floorDiv_f86c9_18 : decode cJ9_floorDiv_f86c9 18 = .ok (.lcmp, 1) := by decide +kernel
theorem dJ9_floorDiv_f86c9_19 : decode cJ9_floorDiv_f86c9 19 = .ok (.ifCond .eq 8, 3) := by decide +kernel
theorem dJ9_floorDiv_f86c9_22 : decode cJ9_floorDiv_f86c9 22 = .ok (.lload 4, 2) := by decide +kernel
theorem dJ9_floorDiv_f86c9_24 : decode cJ9_floorDiv_f86c9 24 = .ok (.lconst 1, 1) := by decide +kernel
theorem dJ9_floorDiv_f86c9_25 : decode cJ9_floorDiv_f86c9 25 = .ok (.lsub, 1) := by decide +kernel
theorem dJ9_floorDiv_f86c9_26 : decode cJ9_floorDiv_f86c9 26 = .ok (.lreturn, 1) := by decide +kernel
theorem dJ9_floorDiv_f86c9_27 : decode cJ9_floorDiv_f86c9 27 = .ok (.lload 4, 2) := by decide +kernel
theorem dJ9_floorDiv_f86c9_29 : decode cJ9_floorDiv_f86c9 29 = .ok (.lreturn, 1) := by decide +kernel
theorem dJ9_abs_067f4_0 : decode cJ9_abs_067f4 0 = .ok (.lload_n 0, 1) := by decide +kernel
theorem dJ9_abs_067f4_1 : decode cJ9_abs_067f4 1 = .ok (.lconst 0, 1) := by decide +kernel
theorem dJ9_abs_067f4_2 : decode cJ9_abs_067f4 2 = .ok (.lcmp, 1) := by decide +kernel
theorem dJ9_abs_067f4_3 : decode cJ9_abs_067f4 3 = .ok (.ifCond .ge 8, 3) := by decide +kernel
theorem dJ9_abs_067f4_6 : decode cJ9_abs_067f4 6 = .ok (.lload_n 0, 1) := by decide +kernel
theorem dJ9_abs_067f4_7 : decode cJ9_abs_067f4 7 = .ok (.lneg, 1) := by decide +kernel
theorem dJ9_abs_067f4_8 : decode cJ9_abs_067f4 8 = .ok (.goto 4, 3) := by decide +kernel
theorem dJ9_abs_067f4_11 : decode cJ9_abs_067f4 11 = .ok (.lload_n 0, 1) := by decide +kernel
theorem dJ9_abs_067f4_12 : decode cJ9_abs_067f4 12 = .ok (.lreturn, 1) := by decide +kernel
theorem dJ9_max_7cf53_0 : decode cJ9_max_7cf53 0 = .ok (.iload_n 0, 1) := by decide +kernel
theorem dJ9_max_7cf53_1 : decode cJ9_max_7cf53 1 = .ok (.iload_n 1, 1) := by decide +kernel
theorem dJ9_max_7cf53_2 : decode cJ9_max_7cf53 2 = .ok (.if_icmp .lt 7, 3) := by decide +kernel
theorem dJ9_max_7cf53_5 : decode cJ9_max_7cf53 5 = .ok (.iload_n 0, 1) := by decide +kernel
theorem dJ9_max_7cf53_6 : decode cJ9_max_7cf53 6 = .ok (.goto 4, 3) := by decide +kernel
theorem dJ9_max_7cf53_9 : decode cJ9_max_7cf53 9 = .ok (.iload_n 1, 1) := by decide +kernel
theorem dJ9_max_7cf53_10 : decode cJ9_max_7cf53 10 = .ok (.ireturn, 1) := by decide +kernel
theorem dJ9_max_f86c9_0 : decode cJ9_max_f86c9 0 = .ok (.lload_n 0, 1) := by decide +kernel
theorem dJ9_max_f86c9_1 : decode cJ9_max_f86c9 1 = .ok (.lload_n 2, 1) := by decide +kernel
theorem dJ9_max_f86c9_2 : decode cJ9_max_f86c9 2 = .ok (.lcmp, 1) := by decide +kernel
theorem dJ9_max_f86c9_3 : decode cJ9_max_f86c9 3 = .ok (.ifCond .lt 7, 3) := by decide +kernel
theorem dJ9_max_f86c9_6 : decode cJ9_max_f86c9 6 = .ok (.lload_n 0, 1) := by decide +kernel
theorem dJ9_max_f86c9_7 : decode cJ9_max_f86c9 7 = .ok (.goto 4, 3) := by decide +kernel
theorem dJ9_max_f86c9_10 : decode cJ9_max_f86c9 10 = .ok (.lload_n 2, 1) := by decide +kernel
theorem dJ9_max_f86c9_11 : decode cJ9_max_f86c9 11 = .ok (.lreturn, 1) := by decide +kernel
theorem dJ9_min_7cf53_0 : decode cJ9_min_7cf53 0 = .ok (.iload_n 0, 1) := by decide +kernel
theorem dJ9_min_7cf53_1 : decode cJ9_min_7cf53 1 = .ok (.iload_n 1, 1) := by decide +kernel
theorem dJ9_min_7cf53_2 : decode cJ9_min_7cf53 2 = .ok (.if_icmp .gt 7, 3) := by decide +kernel
theorem dJ9_min_7cf53_5 : decode cJ9_min_7cf53 5 = .ok (.iload_n 0, 1) := by decide +kernel
theorem dJ9_min_7cf53_6 : decode cJ9_min_7cf53 6 = .ok (.goto 4, 3) := by decide +kernel
theorem dJ9_min_7cf53_9 : decode cJ9_min_7cf53 9 = .ok (.iload_n 1, 1) := by decide +kernel
theorem dJ9_min_7cf53_10 : decode cJ9_min_7cf53 10 = .ok (.ireturn, 1) := by decide +kernel
theorem dL_law_0 : decode cL_law 0 = .ok (.new 7, 3) := by decide +kernel
theorem dL_law_3 : decode cL_law 3 = .ok (.dup, 1) := by decide +kernel
theorem dL_law_4 : decode cL_law 4 = .ok (.invokespecial 9, 3) := by decide +kernel
theorem dL_law_7 : decode cL_law 7 = .ok (.astore_n 1, 1) := by decide +kernel
theorem dL_law_8 : decode cL_law 8 = .ok (.new 10, 3) := by decide +kernel
theorem dL_law_11 : decode cL_law 11 = .ok (.dup, 1) := by decide +kernel
theorem dL_law_12 : decode cL_law 12 = .ok (.invokespecial 12, 3) := by decide +kernel
theorem dL_law_15 : decode cL_law 15 = .ok (.astore_n 2, 1) := by decide +kernel
theorem dL_law_16 : decode cL_law 16 = .ok (.iconst 0, 1) := by decide +kernel
theorem dL_law_17 : decode cL_law 17 = .ok (.istore_n 3, 1) := by decide +kernel
theorem dL_law_18 : decode cL_law 18 = .ok (.iload_n 3, 1) := by decide +kernel
theorem dL_law_19 : decode cL_law 19 = .ok (.aload_n 0, 1) := by decide +kernel
theorem dL_law_20 : decode cL_law 20 = .ok (.arraylength, 1) := by decide +kernel
theorem dL_law_21 : decode cL_law 21 = .ok (.bipush 6, 2) := by decide +kernel
theorem dL_law_23 : decode cL_law 23 = .ok (.isub, 1) := by decide +kernel
theorem dL_law_24 : decode cL_law 24 = .ok (.if_icmp .gt 825, 3) := by decide +kernel
theorem dL_law_27 : decode cL_law 27 = .ok (.aload_n 0, 1) := by decide +kernel
theorem dL_law_28 : decode cL_law 28 = .ok (.iload_n 3, 1) := by decide +kernel
theorem dL_law_29 : decode cL_law 29 = .ok (.iaload, 1) := by decide +kernel
theorem dL_law_30 : decode cL_law 30 = .ok (.bipush 31, 2) := by decide +kernel
theorem dL_law_32 : decode cL_law 32 = .ok (.iand, 1) := by decide +kernel
theorem dL_law_33 : decode cL_law 33 = .ok (.tableswitch 810 0 18 #[91, 154, 197, 240, 273, 296, 329, 342, 385, 429, 472, 516, 559, 592, 625, 668, 701, 744, 787], 91) := by decide +kernel
theorem dL_law_124 : decode cL_law 124 = .ok (.aload_n 1, 1) := by decide +kernel
theorem dL_law_125 : decode cL_law 125 = .ok (.aload_n 0, 1) := by decide +kernel
theorem dL_law_126 : decode cL_law 126 = .ok (.iload_n 3, 1) := by decide +kernel
theorem dL_law_127 : decode cL_law 127 = .ok (.iconst 1, 1) := by decide +kernel
theorem dL_law_128 : decode cL_law 128 = .ok (.iadd, 1) := by decide +kernel
theorem dL_law_129 : decode cL_law 129 = .ok (.iaload, 1) := by decide +kernel
theorem dL_law_130 : decode cL_law 130 = .ok (.aload_n 0, 1) := by decide +kernel
theorem dL_law_131 : decode cL_law 131 = .ok (.iload_n 3, 1) := by decide +kernel
theorem dL_law_132 : decode cL_law 132 = .ok (.iconst 2, 1) := by decide +kernel
theorem dL_law_133 : decode cL_law 133 = .ok (.iadd, 1) := by decide +kernel
theorem dL_law_134 : decode cL_law 134 = .ok (.iaload, 1) := by decide +kernel
theorem dL_law_135 : decode cL_law 135 = .ok (.aload_n 0, 1) := by decide +kernel
theorem dL_law_136 : decode cL_law 136 = .ok (.iload_n 3, 1) := by decide +kernel
theorem dL_law_137 : decode cL_law 137 = .ok (.iconst 3, 1) := by decide +kernel
theorem dL_law_138 : decode cL_law 138 = .ok (.iadd, 1) := by decide +kernel
theorem dL_law_139 : decode cL_law 139 = .ok (.iaload, 1) := by decide +kernel
theorem dL_law_140 : decode cL_law 140 = .ok (.aload_n 0, 1) := by decide +kernel
theorem dL_law_141 : decode cL_law 141 = .ok (.iload_n 3, 1) := by decide +kernel
theorem dL_law_142 : decode cL_law 142 = .ok (.iconst 4, 1) := by decide +kernel
theorem dL_law_143 : decode cL_law 143 = .ok (.iadd, 1) := by decide +kernel
theorem dL_law_144 : decode cL_law 144 = .ok (.iaload, 1) := by decide +kernel
theorem dL_law_145 : decode cL_law 145 = .ok (.aload_n 0, 1) := by decide +kernel
theorem dL_law_146 : decode cL_law 146 = .ok (.iload_n 3, 1) := by decide +kernel
theorem dL_law_147 : decode cL_law 147 = .ok (.iconst 5, 1) := by decide +kernel
theorem dL_law_148 : decode cL_law 148 = .ok (.iadd, 1) := by decide +kernel
theorem dL_law_149 : decode cL_law 149 = .ok (.iaload, 1) := by decide +kernel
theorem dL_law_150 : decode cL_law 150 = .ok (.invokevirtual 13, 3) := by decide +kernel
theorem dL_law_153 : decode cL_law 153 = .ok (.aload_n 2, 1) := by decide +kernel
theorem dL_law_154 : decode cL_law 154 = .ok (.aload_n 0, 1) := by decide +kernel
theorem dL_law_155 : decode cL_law 155 = .ok (.iload_n 3, 1) := by decide +kernel
theorem dL_law_156 : decode cL_law 156 = .ok (.iconst 1, 1) := by decide +kernel
theorem dL_law_157 : decode cL_law 157 = .ok (.iadd, 1) := by decide +kernel
theorem dL_law_158 : decode cL_law 158 = .ok (.iaload, 1) := by decide +kernel
theorem dL_law_159 : decode cL_law 159 = .ok (.aload_n 0, 1) := by decide +kernel
theorem dL_law_160 : decode cL_law 160 = .ok (.iload_n 3, 1) := by decide +kernel
theorem dL_law_161 : decode cL_law 161 = .ok (.iconst 2, 1) := by decide +kernel
theorem dL_law_162 : decode cL_law 162 = .ok (.iadd, 1) := by decide +kernel
theorem dL_law_163 : decode cL_law 163 = .ok (.iaload, 1) := by decide +kernel
theorem dL_law_164 : decode cL_law 164 = .ok (.aload_n 0, 1) := by decide +kernel
theorem dL_law_165 : decode cL_law 165 = .ok (.iload_n 3, 1) := by decide +kernel
theorem dL_law_166 : decode cL_law 166 = .ok (.iconst 3, 1) := by decide +kernel
theorem dL_law_167 : decode cL_law 167 = .ok (.iadd, 1) := by decide +kernel
theorem dL_law_168 : decode cL_law 168 = .ok (.iaload, 1) := by decide +kernel
theorem dL_law_169 : decode cL_law 169 = .ok (.aload_n 0, 1) := by decide +kernel
theorem dL_law_170 : decode cL_law 170 = .ok (.iload_n 3, 1) := by decide +kernel
theorem dL_law_171 : decode cL_law 171 = .ok (.iconst 4, 1) := by decide +kernel
theorem dL_law_172 : decode cL_law 172 = .ok (.iadd, 1) := by decide +kernel
theorem dL_law_173 : decode cL_law 173 = .ok (.iaload, 1) := by decide +kernel
theorem dL_law_174 : decode cL_law 174 = .ok (.aload_n 0, 1) := by decide +kernel
theorem dL_law_175 : decode cL_law 175 = .ok (.iload_n 3, 1) := by decide +kernel
theorem dL_law_176 : decode cL_law 176 = .ok (.iconst 5, 1) := by decide +kernel
theorem dL_law_177 : decode cL_law 177 = .ok (.iadd, 1) := by decide +kernel
theorem dL_law_178 : decode cL_law 178 = .ok (.iaload, 1) := by decide +kernel
theorem dL_law_179 : decode cL_law 179 = .ok (.invokevirtual 17, 3) := by decide +kernel
theorem dL_law_182 : decode cL_law 182 = .ok (.if_icmp .eq 661, 3) := by decide +kernel
theorem dL_law_185 : decode cL_law 185 = .ok (.iconst 0, 1) := by decide +kernel
theorem dL_law_186 : decode cL_law 186 = .ok (.ireturn, 1) := by decide +kernel
theorem dL_law_187 : decode cL_law 187 = .ok (.aload_n 1, 1) := by decide +kernel
theorem dL_law_188 : decode cL_law 188 = .ok (.aload_n 0, 1) := by decide +kernel
theorem dL_law_189 : decode cL_law 189 = .ok (.iload_n 3, 1) := by decide +kernel
theorem dL_law_190 : decode cL_law 190 = .ok (.iconst 1, 1) := by decide +kernel
theorem dL_law_191 : decode cL_law 191 = .ok (.iadd, 1) := by decide +kernel
theorem dL_law_192 : decode cL_law 192 = .ok (.iaload, 1) := by decide +kernel
theorem dL_law_193 : decode cL_law 193 = .ok (.aload_n 0, 1) := by decide +kernel
theorem dL_law_194 : decode cL_law 194 = .ok (.iload_n 3, 1) := by decide +kernel
theorem dL_law_195 : decode cL_law 195 = .ok (.iconst 2, 1) := by decide +kernel
theorem dL_law_196 : decode cL_law 196 = .ok (.iadd, 1) := by decide +kernel
theorem dL_law_197 : decode cL_law 197 = .ok (.iaload, 1) := by decide +kernel
theorem dL_law_198 : decode cL_law 198 = .ok (.aload_n 0, 1) := by decide +kernel
theorem dL_law_199 : decode cL_law 199 = .ok (.iload_n 3, 1) := by decide +kernel
theorem dL_law_200 : decode cL_law 200 = .ok (.iconst 3, 1) := by decide +kernel
theorem dL_law_201 : decode cL_law 201 = .ok (.iadd, 1) := by decide +kernel
theorem dL_law_202 : decode cL_law 202 = .ok (.iaload, 1) := by decide +kernel
theorem dL_law_203 : decode cL_law 203 = .ok (.invokevirtual 18, 3) := by decide +kernel
theorem dL_law_206 : decode cL_law 206 = .ok (.aload_n 2, 1) := by decide +kernel
theorem dL_law_207 : decode cL_law 207 = .ok (.aload_n 0, 1) := by decide +kernel
theorem dL_law_208 : decode cL_law 208 = .ok (.iload_n 3, 1) := by decide +kernel
theorem dL_law_209 : decode cL_law 209 = .ok (.iconst 1, 1) := by decide +kernel
theorem dL_law_210 : decode cL_law 210 = .ok (.iadd, 1) := by decide +kernel
theorem dL_law_211 : decode cL_law 211 = .ok (.iaload, 1) := by decide +kernel
theorem dL_law_212 : decode cL_law 212 = .ok (.aload_n 0, 1) := by decide +kernel
theorem dL_law_213 : decode cL_law 213 = .ok (.iload_n 3, 1) := by decide +kernel
theorem dL_law_214 : decode cL_law 214 = .ok (.iconst 2, 1) := by decide +kernel
theorem dL_law_215 : decode cL_law 215 = .ok (.iadd, 1) := by decide +kernel
theorem dL_law_216 : decode cL_law 216 = .ok (.iaload, 1) := by decide +kernel
theorem dL_law_217 : decode cL_law 217 = .ok (.aload_n 0, 1) := by decide +kernel
theorem dL_law_218 : decode cL_law 218 = .ok (.iload_n 3, 1) := by decide +kernel
theorem dL_law_219 : decode cL_law 219 = .ok (.iconst 3, 1) := by decide +kernel
theorem dL_law_220 : decode cL_law 220 = .ok (.iadd, 1) := by decide +kernel
theorem dL_law_221 : decode cL_law 221 = .ok (.iaload, 1) := by decide +kernel
theorem dL_law_222 : decode cL_law 222 = .ok (.invokevirtual 22, 3) := by decide +kernel
theorem dL_law_225 : decode cL_law 225 = .ok (.if_icmp .eq 618, 3) := by decide +kernel
theorem dL_law_228 : decode cL_law 228 = .ok (.iconst 0, 1) := by decide +kernel
theorem dL_law_229 : decode cL_law 229 = .ok (.ireturn, 1) := by decide +kernel
theorem dL_law_230 : decode cL_law 230 = .ok (.aload_n 1, 1) := by decide +kernel
theorem dL_law_231 : decode cL_law 231 = .ok (.aload_n 0, 1) := by decide +kernel
theorem dL_law_232 : decode cL_law 232 = .ok (.iload_n 3, 1) := by decide +kernel
theorem dL_law_233 : decode cL_law 233 = .ok (.iconst 1, 1) := by decide +kernel
theorem dL_law_234 : decode cL_law 234 = .ok (.iadd, 1) := by decide +kernel
theorem dL_law_235 : decode cL_law 235 = .ok (.iaload, 1) := by decide +kernel
theorem dL_law_236 : decode cL_law 236 = .ok (.aload_n 0, 1) := by decide +kernel
theorem dL_law_237 : decode cL_law 237 = .ok (.iload_n 3, 1) := by decide +kernel
theorem dL_law_238 : decode cL_law 238 = .ok (.iconst 2, 1) := by decide +kernel
theorem dL_law_239 : decode cL_law 239 = .ok (.iadd, 1) := by decide +kernel
theorem dL_law_240 : decode cL_law 240 = .ok (.iaload, 1) := by decide +kernel
theorem dL_law_241 : decode cL_law 241 = .ok (.aload_n 0, 1) := by decide +kernel
theorem dL_law_242 : decode cL_law 242 = .ok (.iload_n 3, 1) := by decide +kernel
theorem dL_law_243 : decode cL_law 243 = .ok (.iconst 3, 1) := by decide +kernel
theorem dL_law_244 : decode cL_law 244 = .ok (.iadd, 1) := by decide +kernel
theorem dL_law_245 : decode cL_law 245 = .ok (.iaload, 1) := by decide +kernel
theorem dL_law_246 : decode cL_law 246 = .ok (.invokevirtual 23, 3) := by decide +kernel
theorem dL_law_249 : decode cL_law 249 = .ok (.aload_n 2, 1) := by decide +kernel
theorem dL_law_250 : decode cL_law 250 = .ok (.aload_n 0, 1) := by decide +kernel
theorem dL_law_251 : decode cL_law 251 = .ok (.iload_n 3, 1) := by decide +kernel
theorem dL_law_252 : decode cL_law 252 = .ok (.iconst 1, 1) := by decide +kernel
theorem dL_law_253 : decode cL_law 253 = .ok (.iadd, 1) := by decide +kernel
theorem dL_law_254 : decode cL_law 254 = .ok (.iaload, 1) := by decide +kernel
theorem dL_law_255 : decode cL_law 255 = .ok (.aload_n 0, 1) := by decide +kernel
theorem dL_law_256 : decode cL_law 256 = .ok (.iload_n 3, 1) := by decide +kernel
theorem dL_law_257 : decode cL_law 257 = .ok (.iconst 2, 1) := by decide +kernel
theorem dL_law_258 : decode cL_law 258 = .ok (.iadd, 1) := by decide +kernel
theorem dL_law_259 : decode cL_law 259 = .ok (.iaload, 1) := by decide +kernel
theorem dL_law_260 : decode cL_law 260 = .ok (.aload_n 0, 1) := by decide +kernel
theorem dL_law_261 : decode cL_law 261 = .ok (.iload_n 3, 1) := by decide +kernel
theorem dL_law_262 : decode cL_law 262 = .ok (.iconst 3, 1) := by decide +kernel
theorem dL_law_263 : decode cL_law 263 = .ok (.iadd, 1) := by decide +kernel
theorem dL_law_264 : decode cL_law 264 = .ok (.iaload, 1) := by decide +kernel
theorem dL_law_265 : decode cL_law 265 = .ok (.invokevirtual 27, 3) := by decide +kernel
theorem dL_law_268 : decode cL_law 268 = .ok (.if_icmp .eq 575, 3) := by decide +kernel
theorem dL_law_271 : decode cL_law 271 = .ok (.iconst 0, 1) := by decide +kernel
theorem dL_law_272 : decode cL_law 272 = .ok (.ireturn, 1) := by decide +kernel
theorem dL_law_273 : decode cL_law 273 = .ok (.aload_n 1, 1) := by decide +kernel
theorem dL_law_274 : decode cL_law 274 = .ok (.aload_n 0, 1) := by decide +kernel
theorem dL_law_275 : decode cL_law 275 = .ok (.iload_n 3, 1) := by decide +kernel
theorem dL_law_276 : decode cL_law 276 = .ok (.iconst 1, 1) := by decide +kernel
theorem dL_law_277 : decode cL_law 277 = .ok (.iadd, 1) := by decide +kernel
theorem dL_law_278 : decode cL_law 278 = .ok (.iaload, 1) := by decide +kernel
theorem dL_law_279 : decode cL_law 279 = .ok (.aload_n 0, 1) := by decide +kernel
theorem dL_law_280 : decode cL_law 280 = .ok (.iload_n 3, 1) := by decide +kernel
theorem dL_law_281 : decode cL_law 281 = .ok (.iconst 2, 1) := by decide +kernel
theorem dL_law_282 : decode cL_law 282 = .ok (.iadd, 1) := by decide +kernel
theorem dL_law_283 : decode cL_law 283 = .ok (.iaload, 1) := by decide +kernel
theorem dL_law_284 : decode cL_law 284 = .ok (.invokevirtual 28, 3) := by decide +kernel
theorem dL_law_287 : decode cL_law 287 = .ok (.aload_n 2, 1) := by decide +kernel
theorem dL_law_288 : decode cL_law 288 = .ok (.aload_n 0, 1) := by decide +kernel
theorem dL_law_289 : decode cL_law 289 = .ok (.iload_n 3, 1) := by decide +kernel
theorem dL_law_290 : decode cL_law 290 = .ok (.iconst 1, 1) := by decide +kernel
theorem dL_law_291 : decode cL_law 291 = .ok (.iadd, 1) := by decide +kernel
theorem dL_law_292 : decode cL_law 292 = .ok (.iaload, 1) := by decide +kernel
theorem dL_law_293 : decode cL_law 293 = .ok (.aload_n 0, 1) := by decide +kernel
theorem dL_law_294 : decode cL_law 294 = .ok (.iload_n 3, 1) := by decide +kernel
theorem dL_law_295 : decode cL_law 295 = .ok (.iconst 2, 1) := by decide +kernel
theorem dL_law_296 : decode cL_law 296 = .ok (.iadd, 1) := by decide +kernel
theorem dL_law_297 : decode cL_law 297 = .ok (.iaload, 1) := by decide +kernel
theorem dL_law_298 : decode cL_law 298 = .ok (.invokevirtual 32, 3) := by decide +kernel
theorem dL_law_301 : decode cL_law 301 = .ok (.if_icmp .eq 542, 3) := by decide +kernel
theorem dL_law_304 : decode cL_law 304 = .ok (.iconst 0, 1) := by decide +kernel
theorem dL_law_305 : decode cL_law 305 = .ok (.ireturn, 1) := by decide +kernel
theorem dL_law_306 : decode cL_law 306 = .ok (.aload_n 1, 1) := by decide +kernel
theorem dL_law_307 : decode cL_law 307 = .ok (.aload_n 0, 1) := by decide +kernel
theorem dL_law_308 : decode cL_law 308 = .ok (.iload_n 3, 1) := by decide +kernel
theorem dL_law_309 : decode cL_law 309 = .ok (.iconst 1, 1) := by decide +kernel
theorem dL_law_310 : decode cL_law 310 = .ok (.iadd, 1) := by decide +kernel
theorem dL_law_311 : decode cL_law 311 = .ok (.iaload, 1) := by decide +kernel
theorem dL_law_312 : decode cL_law 312 = .ok (.invokevirtual 33, 3) := by decide +kernel
theorem dL_law_315 : decode cL_law 315 = .ok (.aload_n 2, 1) := by decide +kernel
theorem dL_law_316 : decode cL_law 316 = .ok (.aload_n 0, 1) := by decide +kernel
theorem dL_law_317 : decode cL_law 317 = .ok (.iload_n 3, 1) := by decide +kernel
theorem dL_law_318 : decode cL_law 318 = .ok (.iconst 1, 1) := by decide +kernel
theorem dL_law_319 : decode cL_law 319 = .ok (.iadd, 1) := by decide +kernel
theorem dL_law_320 : decode cL_law 320 = .ok (.iaload, 1) := by decide +kernel
theorem dL_law_321 : decode cL_law 321 = .ok (.invokevirtual 37, 3) := by decide +kernel
theorem dL_law_324 : decode cL_law 324 = .ok (.if_icmp .eq 519, 3) := by decide +kernel
theorem dL_law_327 : decode cL_law 327 = .ok (.iconst 0, 1) := by decide +kernel
theorem dL_law_328 : decode cL_law 328 = .ok (.ireturn, 1) := by decide +kernel
theorem dL_law_329 : decode cL_law 329 = .ok (.aload_n 1, 1) := by decide +kernel
theorem dL_law_330 : decode cL_law 330 = .ok (.aload_n 0, 1) := by decide +kernel
theorem dL_law_331 : decode cL_law 331 = .ok (.iload_n 3, 1) := by decide +kernel
theorem dL_law_332 : decode cL_law 332 = .ok (.iconst 1, 1) := by decide +kernel
theorem dL_law_333 : decode cL_law 333 = .ok (.iadd, 1) := by decide +kernel
theorem dL_law_334 : decode cL_law 334 = .ok (.iaload, 1) := by decide +kernel
theorem dL_law_335 : decode cL_law 335 = .ok (.aload_n 0, 1) := by decide +kernel
theorem dL_law_336 : decode cL_law 336 = .ok (.iload_n 3, 1) := by decide +kernel
theorem dL_law_337 : decode cL_law 337 = .ok (.iconst 2, 1) := by decide +kernel
theorem dL_law_338 : decode cL_law 338 = .ok (.iadd, 1) := by decide +kernel
theorem dL_law_339 : decode cL_law 339 = .ok (.iaload, 1) := by decide +kernel
theorem dL_law_340 : decode cL_law 340 = .ok (.invokevirtual 38, 3) := by decide +kernel
theorem dL_law_343 : decode cL_law 343 = .ok (.aload_n 2, 1) := by decide +kernel
theorem dL_law_344 : decode cL_law 344 = .ok (.aload_n 0, 1) := by decide +kernel
theorem dL_law_345 : decode cL_law 345 = .ok (.iload_n 3, 1) := by decide +kernel
theorem dL_law_346 : decode cL_law 346 = .ok (.iconst 1, 1) := by decide +kernel
theorem dL_law_347 : decode cL_law 347 = .ok (.iadd, 1) := by decide +kernel
theorem dL_law_348 : decode cL_law 348 = .ok (.iaload, 1) := by decide +kernel
theorem dL_law_349 : decode cL_law 349 = .ok (.aload_n 0, 1) := by decide +kernel
theorem dL_law_350 : decode cL_law 350 = .ok (.iload_n 3, 1) := by decide +kernel
theorem dL_law_351 : decode cL_law 351 = .ok (.iconst 2, 1) := by decide +kernel
theorem dL_law_352 : decode cL_law 352 = .ok (.iadd, 1) := by decide +kernel
theorem dL_law_353 : decode cL_law 353 = .ok (.iaload, 1) := by decide +kernel
theorem dL_law_354 : decode cL_law 354 = .ok (.invokevirtual 41, 3) := by decide +kernel
theorem dL_law_357 : decode cL_law 357 = .ok (.if_icmp .eq 486, 3) := by decide +kernel
theorem dL_law_360 : decode cL_law 360 = .ok (.iconst 0, 1) := by decide +kernel
theorem dL_law_361 : decode cL_law 361 = .ok (.ireturn, 1) := by decide +kernel
theorem dL_law_362 : decode cL_law 362 = .ok (.aload_n 1, 1) := by decide +kernel
theorem dL_law_363 : decode cL_law 363 = .ok (.invokevirtual 42, 3) := by decide +kernel
theorem dL_law_366 : decode cL_law 366 = .ok (.aload_n 2, 1) := by decide +kernel
theorem dL_law_367 : decode cL_law 367 = .ok (.invokevirtual 46, 3) := by decide +kernel
theorem dL_law_370 : decode cL_law 370 = .ok (.if_icmp .eq 473, 3) := by decide +kernel
theorem dL_law_373 : decode cL_law 373 = .ok (.iconst 0, 1) := by decide +kernel
theorem dL_law_374 : decode cL_law 374 = .ok (.ireturn, 1) := by decide +kernel
theorem dL_law_375 : decode cL_law 375 = .ok (.aload_n 1, 1) := by decide +kernel
theorem dL_law_376 : decode cL_law 376 = .ok (.aload_n 0, 1) := by decide +kernel
theorem dL_law_377 : decode cL_law 377 = .ok (.iload_n 3, 1) := by decide +kernel
theorem dL_law_378 : decode cL_law 378 = .ok (.iconst 1, 1) := by decide +kernel
theorem dL_law_379 : decode cL_law 379 = .ok (.iadd, 1) := by decide +kernel
theorem dL_law_380 : decode cL_law 380 = .ok (.iaload, 1) := by decide +kernel
theorem dL_law_381 : decode cL_law 381 = .ok (.aload_n 0, 1) := by decide +kernel
theorem dL_law_382 : decode cL_law 382 = .ok (.iload_n 3, 1) := by decide +kernel
theorem dL_law_383 : decode cL_law 383 = .ok (.iconst 2, 1) := by decide +kernel
theorem dL_law_384 : decode cL_law 384 = .ok (.iadd, 1) := by decide +kernel
theorem dL_law_385 : decode cL_law 385 = .ok (.iaload, 1) := by decide +kernel
theorem dL_law_386 : decode cL_law 386 = .ok (.aload_n 0, 1) := by decide +kernel
theorem dL_law_387 : decode cL_law 387 = .ok (.iload_n 3, 1) := by decide +kernel
theorem dL_law_388 : decode cL_law 388 = .ok (.iconst 3, 1) := by decide +kernel
theorem dL_law_389 : decode cL_law 389 = .ok (.iadd, 1) := by decide +kernel
theorem dL_law_390 : decode cL_law 390 = .ok (.iaload, 1) := by decide +kernel
theorem dL_law_391 : decode cL_law 391 = .ok (.invokevirtual 47, 3) := by decide +kernel
theorem dL_law_394 : decode cL_law 394 = .ok (.aload_n 2, 1) := by decide +kernel
theorem dL_law_395 : decode cL_law 395 = .ok (.aload_n 0, 1) := by decide +kernel
theorem dL_law_396 : decode cL_law 396 = .ok (.iload_n 3, 1) := by decide +kernel
theorem dL_law_397 : decode cL_law 397 = .ok (.iconst 1, 1) := by decide +kernel
theorem dL_law_398 : decode cL_law 398 = .ok (.iadd, 1) := by decide +kernel
theorem dL_law_399 : decode cL_law 399 = .ok (.iaload, 1) := by decide +kernel
theorem dL_law_400 : decode cL_law 400 = .ok (.aload_n 0, 1) := by decide +kernel
theorem dL_law_401 : decode cL_law 401 = .ok (.iload_n 3, 1) := by decide +kernel
theorem dL_law_402 : decode cL_law 402 = .ok (.iconst 2, 1) := by decide +kernel
theorem dL_law_403 : decode cL_law 403 = .ok (.iadd, 1) := by decide +kernel
theorem dL_law_404 : decode cL_law 404 = .ok (.iaload, 1) := by decide +kernel
theorem dL_law_405 : decode cL_law 405 = .ok (.aload_n 0, 1) := by decide +kernel
theorem dL_law_406 : decode cL_law 406 = .ok (.iload_n 3, 1) := by decide +kernel
theorem dL_law_407 : decode cL_law 407 = .ok (.iconst 3, 1) := by decide +kernel
theorem dL_law_408 : decode cL_law 408 = .ok (.iadd, 1) := by decide +kernel
theorem dL_law_409 : decode cL_law 409 = .ok (.iaload, 1) := by decide +kernel
theorem dL_law_410 : decode cL_law 410 = .ok (.invokevirtual 50, 3) := by decide +kernel
theorem dL_law_413 : decode cL_law 413 = .ok (.if_icmp .eq 430, 3) := by decide +kernel
theorem dL_law_416 : decode cL_law 416 = .ok (.iconst 0, 1) := by decide +kernel
theorem dL_law_417 : decode cL_law 417 = .ok (.ireturn, 1) := by decide +kernel
theorem dL_law_418 : decode cL_law 418 = .ok (.aload_n 1, 1) := by decide +kernel
theorem dL_law_419 : decode cL_law 419 = .ok (.aload_n 0, 1) := by decide +kernel
theorem dL_law_420 : decode cL_law 420 = .ok (.iload_n 3, 1) := by decide +kernel
theorem dL_law_421 : decode cL_law 421 = .ok (.iconst 1, 1) := by decide +kernel
theorem dL_law_422 : decode cL_law 422 = .ok (.iadd, 1) := by decide +kernel
theorem dL_law_423 : decode cL_law 423 = .ok (.iaload, 1) := by decide +kernel
theorem dL_law_424 : decode cL_law 424 = .ok (.aload_n 0, 1) := by decide +kernel
theorem dL_law_425 : decode cL_law 425 = .ok (.iload_n 3, 1) := by decide +kernel
theorem dL_law_426 : decode cL_law 426 = .ok (.iconst 2, 1) := by decide +kernel
theorem dL_law_427 : decode cL_law 427 = .ok (.iadd, 1) := by decide +kernel
theorem dL_law_428 : decode cL_law 428 = .ok (.iaload, 1) := by decide +kernel
theorem dL_law_429 : decode cL_law 429 = .ok (.aload_n 0, 1) := by decide +kernel
theorem dL_law_430 : decode cL_law 430 = .ok (.iload_n 3, 1) := by decide +kernel
theorem dL_law_431 : decode cL_law 431 = .ok (.iconst 3, 1) := by decide +kernel
theorem dL_law_432 : decode cL_law 432 = .ok (.iadd, 1) := by decide +kernel
theorem dL_law_433 : decode cL_law 433 = .ok (.iaload, 1) := by decide +kernel
theorem dL_law_434 : decode cL_law 434 = .ok (.invokevirtual 51, 3) := by decide +kernel
theorem dL_law_437 : decode cL_law 437 = .ok (.aload_n 2, 1) := by decide +kernel
theorem dL_law_438 : decode cL_law 438 = .ok (.aload_n 0, 1) := by decide +kernel
theorem dL_law_439 : decode cL_law 439 = .ok (.iload_n 3, 1) := by decide +kernel
theorem dL_law_440 : decode cL_law 440 = .ok (.iconst 1, 1) := by decide +kernel
theorem dL_law_441 : decode cL_law 441 = .ok (.iadd, 1) := by decide +kernel
theorem dL_law_442 : decode cL_law 442 = .ok (.iaload, 1) := by decide +kernel
theorem dL_law_443 : decode cL_law 443 = .ok (.aload_n 0, 1) := by decide +kernel
theorem dL_law_444 : decode cL_law 444 = .ok (.iload_n 3, 1) := by decide +kernel
theorem dL_law_445 : decode cL_law 445 = .ok (.iconst 2, 1) := by decide +kernel
theorem dL_law_446 : decode cL_law 446 = .ok (.iadd, 1) := by decide +kernel
theorem dL_law_447 : decode cL_law 447 = .ok (.iaload, 1) := by decide +kernel
theorem dL_law_448 : decode cL_law 448 = .ok (.aload_n 0, 1) := by decide +kernel
theorem dL_law_449 : decode cL_law 449 = .ok (.iload_n 3, 1) := by decide +kernel
theorem dL_law_450 : decode cL_law 450 = .ok (.iconst 3, 1) := by decide +kernel
theorem dL_law_451 : decode cL_law 451 = .ok (.iadd, 1) := by decide +kernel
theorem dL_law_452 : decode cL_law 452 = .ok (.iaload, 1) := by decide +kernel
theorem dL_law_453 : decode cL_law 453 = .ok (.invokevirtual 55, 3) := by decide +kernel
theorem dL_law_456 : decode cL_law 456 = .ok (.lcmp, 1) := by decide +kernel
theorem dL_law_457 : decode cL_law 457 = .ok (.ifCond .eq 386, 3) := by decide +kernel
theorem dL_law_460 : decode cL_law 460 = .ok (.iconst 0, 1) := by decide +kernel
theorem dL_law_461 : decode cL_law 461 = .ok (.ireturn, 1) := by decide +kernel
theorem dL_law_462 : decode cL_law 462 = .ok (.aload_n 1, 1) := by decide +kernel
theorem dL_law_463 : decode cL_law 463 = .ok (.aload_n 0, 1) := by decide +kernel
theorem dL_law_464 : decode cL_law 464 = .ok (.iload_n 3, 1) := by decide +kernel
theorem dL_law_465 : decode cL_law 465 = .ok (.iconst 1, 1) := by decide +kernel
theorem dL_law_466 : decode cL_law 466 = .ok (.iadd, 1) := by decide +kernel
theorem dL_law_467 : decode cL_law 467 = .ok (.iaload, 1) := by decide +kernel
theorem dL_law_468 : decode cL_law 468 = .ok (.aload_n 0, 1) := by decide +kernel
theorem dL_law_469 : decode cL_law 469 = .ok (.iload_n 3, 1) := by decide +kernel
theorem dL_law_470 : decode cL_law 470 = .ok (.iconst 2, 1) := by decide +kernel
theorem dL_law_471 : decode cL_law 471 = .ok (.iadd, 1) := by decide +kernel
theorem dL_law_472 : decode cL_law 472 = .ok (.iaload, 1) := by decide +kernel
theorem dL_law_473 : decode cL_law 473 = .ok (.aload_n 0, 1) := by decide +kernel
theorem dL_law_474 : decode cL_law 474 = .ok (.iload_n 3, 1) := by decide +kernel
theorem dL_law_475 : decode cL_law 475 = .ok (.iconst 3, 1) := by decide +kernel
theorem dL_law_476 : decode cL_law 476 = .ok (.iadd, 1) := by decide +kernel
theorem dL_law_477 : decode cL_law 477 = .ok (.iaload, 1) := by decide +kernel
theorem dL_law_478 : decode cL_law 478 = .ok (.invokevirtual 56, 3) := by decide +kernel
theorem dL_law_481 : decode cL_law 481 = .ok (.aload_n 2, 1) := by decide +kernel
theorem dL_law_482 : decode cL_law 482 = .ok (.aload_n 0, 1) := by decide +kernel
theorem dL_law_483 : decode cL_law 483 = .ok (.iload_n 3, 1) := by decide +kernel
theorem dL_law_484 : decode cL_law 484 = .ok (.iconst 1, 1) := by decide +kernel
theorem dL_law_485 : decode cL_law 485 = .ok (.iadd, 1) := by decide +kernel
theorem dL_law_486 : decode cL_law 486 = .ok (.iaload, 1) := by decide +kernel
theorem dL_law_487 : decode cL_law 487 = .ok (.aload_n 0, 1) := by decide +kernel
theorem dL_law_488 : decode cL_law 488 = .ok (.iload_n 3, 1) := by decide +kernel
theorem dL_law_489 : decode cL_law 489 = .ok (.iconst 2, 1) := by decide +kernel
theorem dL_law_490 : decode cL_law 490 = .ok (.iadd, 1) := by decide +kernel
theorem dL_law_491 : decode cL_law 491 = .ok (.iaload, 1) := by decide +kernel
theorem dL_law_492 : decode cL_law 492 = .ok (.aload_n 0, 1) := by decide +kernel
theorem dL_law_493 : decode cL_law 493 = .ok (.iload_n 3, 1) := by decide +kernel
theorem dL_law_494 : decode cL_law 494 = .ok (.iconst 3, 1) := by decide +kernel
theorem dL_law_495 : decode cL_law 495 = .ok (.iadd, 1) := by decide +kernel
theorem dL_law_496 : decode cL_law 496 = .ok (.iaload, 1) := by decide +kernel
theorem dL_law_497 : decode cL_law 497 = .ok (.invokevirtual 59, 3) := by decide +kernel
theorem dL_law_500 : decode cL_law 500 = .ok (.if_icmp .eq 343, 3) := by decide +kernel
theorem dL_law_503 : decode cL_law 503 = .ok (.iconst 0, 1) := by decide +kernel
theorem dL_law_504 : decode cL_law 504 = .ok (.ireturn, 1) := by decide +kernel
theorem dL_law_505 : decode cL_law 505 = .ok (.aload_n 1, 1) := by decide +kernel
theorem dL_law_506 : decode cL_law 506 = .ok (.aload_n 0, 1) := by decide +kernel
theorem dL_law_507 : decode cL_law 507 = .ok (.iload_n 3, 1) := by decide +kernel
theorem dL_law_508 : decode cL_law 508 = .ok (.iconst 1, 1) := by decide +kernel
theorem dL_law_509 : decode cL_law 509 = .ok (.iadd, 1) := by decide +kernel
theorem dL_law_510 : decode cL_law 510 = .ok (.iaload, 1) := by decide +kernel
theorem dL_law_511 : decode cL_law 511 = .ok (.aload_n 0, 1) := by decide +kernel
theorem dL_law_512 : decode cL_law 512 = .ok (.iload_n 3, 1) := by decide +kernel
theorem dL_law_513 : decode cL_law 513 = .ok (.iconst 2, 1) := by decide +kernel
theorem dL_law_514 : decode cL_law 514 = .ok (.iadd, 1) := by decide +kernel
theorem dL_law_515 : decode cL_law 515 = .ok (.iaload, 1) := by decide +kernel
theorem dL_law_516 : decode cL_law 516 = .ok (.aload_n 0, 1) := by decide +kernel
theorem dL_law_517 : decode cL_law 517 = .ok (.iload_n 3, 1) := by decide +kernel
theorem dL_law_518 : decode cL_law 518 = .ok (.iconst 3, 1) := by decide +kernel
theorem dL_law_519 : decode cL_law 519 = .ok (.iadd, 1) := by decide +kernel
theorem dL_law_520 : decode cL_law 520 = .ok (.iaload, 1) := by decide +kernel
theorem dL_law_521 : decode cL_law 521 = .ok (.invokevirtual 60, 3) := by decide +kernel
theorem dL_law_524 : decode cL_law 524 = .ok (.aload_n 2, 1) := by decide +kernel
theorem dL_law_525 : decode cL_law 525 = .ok (.aload_n 0, 1) := by decide +kernel
theorem dL_law_526 : decode cL_law 526 = .ok (.iload_n 3, 1) := by decide +kernel
theorem dL_law_527 : decode cL_law 527 = .ok (.iconst 1, 1) := by decide +kernel
theorem dL_law_528 : decode cL_law 528 = .ok (.iadd, 1) := by decide +kernel
theorem dL_law_529 : decode cL_law 529 = .ok (.iaload, 1) := by decide +kernel
theorem dL_law_530 : decode cL_law 530 = .ok (.aload_n 0, 1) := by decide +kernel
theorem dL_law_531 : decode cL_law 531 = .ok (.iload_n 3, 1) := by decide +kernel
theorem dL_law_532 : decode cL_law 532 = .ok (.iconst 2, 1) := by decide +kernel
theorem dL_law_533 : decode cL_law 533 = .ok (.iadd, 1) := by decide +kernel
theorem dL_law_534 : decode cL_law 534 = .ok (.iaload, 1) := by decide +kernel
theorem dL_law_535 : decode cL_law 535 = .ok (.aload_n 0, 1) := by decide +kernel
theorem dL_law_536 : decode cL_law 536 = .ok (.iload_n 3, 1) := by decide +kernel
theorem dL_law_537 : decode cL_law 537 = .ok (.iconst 3, 1) := by decide +kernel
theorem dL_law_538 : decode cL_law 538 = .ok (.iadd, 1) := by decide +kernel
theorem dL_law_539 : decode cL_law 539 = .ok (.iaload, 1) := by decide +kernel
theorem dL_law_540 : decode cL_law 540 = .ok (.invokevirtual 63, 3) := by decide +kernel
theorem dL_law_543 : decode cL_law 543 = .ok (.lcmp, 1) := by decide +kernel
theorem dL_law_544 : decode cL_law 544 = .ok (.ifCond .eq 299, 3) := by decide +kernel
theorem dL_law_547 : decode cL_law 547 = .ok (.iconst 0, 1) := by decide +kernel
theorem dL_law_548 : decode cL_law 548 = .ok (.ireturn, 1) := by decide +kernel
theorem dL_law_549 : decode cL_law 549 = .ok (.aload_n 1, 1) := by decide +kernel
theorem dL_law_550 : decode cL_law 550 = .ok (.aload_n 0, 1) := by decide +kernel
theorem dL_law_551 : decode cL_law 551 = .ok (.iload_n 3, 1) := by decide +kernel
theorem dL_law_552 : decode cL_law 552 = .ok (.iconst 1, 1) := by decide +kernel
theorem dL_law_553 : decode cL_law 553 = .ok (.iadd, 1) := by decide +kernel
theorem dL_law_554 : decode cL_law 554 = .ok (.iaload, 1) := by decide +kernel
theorem dL_law_555 : decode cL_law 555 = .ok (.aload_n 0, 1) := by decide +kernel
theorem dL_law_556 : decode cL_law 556 = .ok (.iload_n 3, 1) := by decide +kernel
theorem dL_law_557 : decode cL_law 557 = .ok (.iconst 2, 1) := by decide +kernel
theorem dL_law_558 : decode cL_law 558 = .ok (.iadd, 1) := by decide +kernel
theorem dL_law_559 : decode cL_law 559 = .ok (.iaload, 1) := by decide +kernel
theorem dL_law_560 : decode cL_law 560 = .ok (.aload_n 0, 1) := by decide +kernel
theorem dL_law_561 : decode cL_law 561 = .ok (.iload_n 3, 1) := by decide +kernel
theorem dL_law_562 : decode cL_law 562 = .ok (.iconst 3, 1) := by decide +kernel
theorem dL_law_563 : decode cL_law 563 = .ok (.iadd, 1) := by decide +kernel
theorem dL_law_564 : decode cL_law 564 = .ok (.iaload, 1) := by decide +kernel
theorem dL_law_565 : decode cL_law 565 = .ok (.invokevirtual 64, 3) := by decide +kernel
theorem dL_law_568 : decode cL_law 568 = .ok (.aload_n 2, 1) := by decide +kernel
theorem dL_law_569 : decode cL_law 569 = .ok (.aload_n 0, 1) := by decide +kernel
theorem dL_law_570 : decode cL_law 570 = .ok (.iload_n 3, 1) := by decide +kernel
theorem dL_law_571 : decode cL_law 571 = .ok (.iconst 1, 1) := by decide +kernel
theorem dL_law_572 : decode cL_law 572 = .ok (.iadd, 1) := by decide +kernel
theorem dL_law_573 : decode cL_law 573 = .ok (.iaload, 1) := by decide +kernel
theorem dL_law_574 : decode cL_law 574 = .ok (.aload_n 0, 1) := by decide +kernel
theorem dL_law_575 : decode cL_law 575 = .ok (.iload_n 3, 1) := by decide +kernel
theorem dL_law_576 : decode cL_law 576 = .ok (.iconst 2, 1) := by decide +kernel
theorem dL_law_577 : decode cL_law 577 = .ok (.iadd, 1) := by decide +kernel
theorem dL_law_578 : decode cL_law 578 = .ok (.iaload, 1) := by decide +kernel
theorem dL_law_579 : decode cL_law 579 = .ok (.aload_n 0, 1) := by decide +kernel
theorem dL_law_580 : decode cL_law 580 = .ok (.iload_n 3, 1) := by decide +kernel
theorem dL_law_581 : decode cL_law 581 = .ok (.iconst 3, 1) := by decide +kernel
theorem dL_law_582 : decode cL_law 582 = .ok (.iadd, 1) := by decide +kernel
theorem dL_law_583 : decode cL_law 583 = .ok (.iaload, 1) := by decide +kernel
theorem dL_law_584 : decode cL_law 584 = .ok (.invokevirtual 67, 3) := by decide +kernel
theorem dL_law_587 : decode cL_law 587 = .ok (.if_icmp .eq 256, 3) := by decide +kernel
theorem dL_law_590 : decode cL_law 590 = .ok (.iconst 0, 1) := by decide +kernel
theorem dL_law_591 : decode cL_law 591 = .ok (.ireturn, 1) := by decide +kernel
theorem dL_law_592 : decode cL_law 592 = .ok (.aload_n 1, 1) := by decide +kernel
theorem dL_law_593 : decode cL_law 593 = .ok (.aload_n 0, 1) := by decide +kernel
theorem dL_law_594 : decode cL_law 594 = .ok (.iload_n 3, 1) := by decide +kernel
theorem dL_law_595 : decode cL_law 595 = .ok (.iconst 1, 1) := by decide +kernel
theorem dL_law_596 : decode cL_law 596 = .ok (.iadd, 1) := by decide +kernel
theorem dL_law_597 : decode cL_law 597 = .ok (.iaload, 1) := by decide +kernel
theorem dL_law_598 : decode cL_law 598 = .ok (.aload_n 0, 1) := by decide +kernel
theorem dL_law_599 : decode cL_law 599 = .ok (.iload_n 3, 1) := by decide +kernel
theorem dL_law_600 : decode cL_law 600 = .ok (.iconst 2, 1) := by decide +kernel
theorem dL_law_601 : decode cL_law 601 = .ok (.iadd, 1) := by decide +kernel
theorem dL_law_602 : decode cL_law 602 = .ok (.iaload, 1) := by decide +kernel
theorem dL_law_603 : decode cL_law 603 = .ok (.invokevirtual 68, 3) := by decide +kernel
theorem dL_law_606 : decode cL_law 606 = .ok (.aload_n 2, 1) := by decide +kernel
theorem dL_law_607 : decode cL_law 607 = .ok (.aload_n 0, 1) := by decide +kernel
theorem dL_law_608 : decode cL_law 608 = .ok (.iload_n 3, 1) := by decide +kernel
theorem dL_law_609 : decode cL_law 609 = .ok (.iconst 1, 1) := by decide +kernel
theorem dL_law_610 : decode cL_law 610 = .ok (.iadd, 1) := by decide +kernel
theorem dL_law_611 : decode cL_law 611 = .ok (.iaload, 1) := by decide +kernel
theorem dL_law_612 : decode cL_law 612 = .ok (.aload_n 0, 1) := by decide +kernel
theorem dL_law_613 : decode cL_law 613 = .ok (.iload_n 3, 1) := by decide +kernel
theorem dL_law_614 : decode cL_law 614 = .ok (.iconst 2, 1) := by decide +kernel
theorem dL_law_615 : decode cL_law 615 = .ok (.iadd, 1) := by decide +kernel
theorem dL_law_616 : decode cL_law 616 = .ok (.iaload, 1) := by decide +kernel
theorem dL_law_617 : decode cL_law 617 = .ok (.invokevirtual 72, 3) := by decide +kernel
theorem dL_law_620 : decode cL_law 620 = .ok (.if_icmp .eq 223, 3) := by decide +kernel
theorem dL_law_623 : decode cL_law 623 = .ok (.iconst 0, 1) := by decide +kernel
theorem dL_law_624 : decode cL_law 624 = .ok (.ireturn, 1) := by decide +kernel
theorem dL_law_625 : decode cL_law 625 = .ok (.aload_n 1, 1) := by decide +kernel
theorem dL_law_626 : decode cL_law 626 = .ok (.aload_n 0, 1) := by decide +kernel
theorem dL_law_627 : decode cL_law 627 = .ok (.iload_n 3, 1) := by decide +kernel
theorem dL_law_628 : decode cL_law 628 = .ok (.iconst 1, 1) := by decide +kernel
theorem dL_law_629 : decode cL_law 629 = .ok (.iadd, 1) := by decide +kernel
theorem dL_law_630 : decode cL_law 630 = .ok (.iaload, 1) := by decide +kernel
theorem dL_law_631 : decode cL_law 631 = .ok (.aload_n 0, 1) := by decide +kernel
theorem dL_law_632 : decode cL_law 632 = .ok (.iload_n 3, 1) := by decide +kernel
theorem dL_law_633 : decode cL_law 633 = .ok (.iconst 2, 1) := by decide +kernel
theorem dL_law_634 : decode cL_law 634 = .ok (.iadd, 1) := by decide +kernel
theorem dL_law_635 : decode cL_law 635 = .ok (.iaload, 1) := by decide +kernel
theorem dL_law_636 : decode cL_law 636 = .ok (.invokevirtual 73, 3) := by decide +kernel
theorem dL_law_639 : decode cL_law 639 = .ok (.aload_n 2, 1) := by decide +kernel
theorem dL_law_640 : decode cL_law 640 = .ok (.aload_n 0, 1) := by decide +kernel
theorem dL_law_641 : decode cL_law 641 = .ok (.iload_n 3, 1) := by decide +kernel
theorem dL_law_642 : decode cL_law 642 = .ok (.iconst 1, 1) := by decide +kernel
theorem dL_law_643 : decode cL_law 643 = .ok (.iadd, 1) := by decide +kernel
theorem dL_law_644 : decode cL_law 644 = .ok (.iaload, 1) := by decide +kernel
theorem dL_law_645 : decode cL_law 645 = .ok (.aload_n 0, 1) := by decide +kernel
theorem dL_law_646 : decode cL_law 646 = .ok (.iload_n 3, 1) := by decide +kernel
theorem dL_law_647 : decode cL_law 647 = .ok (.iconst 2, 1) := by decide +kernel
theorem dL_law_648 : decode cL_law 648 = .ok (.iadd, 1) := by decide +kernel
theorem dL_law_649 : decode cL_law 649 = .ok (.iaload, 1) := by decide +kernel
theorem dL_law_650 : decode cL_law 650 = .ok (.invokevirtual 76, 3) := by decide +kernel
theorem dL_law_653 : decode cL_law 653 = .ok (.if_icmp .eq 190, 3) := by decide +kernel
theorem dL_law_656 : decode cL_law 656 = .ok (.iconst 0, 1) := by decide +kernel
theorem dL_law_657 : decode cL_law 657 = .ok (.ireturn, 1) := by decide +kernel
theorem dL_law_658 : decode cL_law 658 = .ok (.aload_n 1, 1) := by decide +kernel
theorem dL_law_659 : decode cL_law 659 = .ok (.aload_n 0, 1) := by decide +kernel
theorem dL_law_660 : decode cL_law 660 = .ok (.iload_n 3, 1) := by decide +kernel
theorem dL_law_661 : decode cL_law 661 = .ok (.iconst 1, 1) := by decide +kernel
theorem dL_law_662 : decode cL_law 662 = .ok (.iadd, 1) := by decide +kernel
theorem dL_law_663 : decode cL_law 663 = .ok (.iaload, 1) := by decide +kernel
theorem dL_law_664 : decode cL_law 664 = .ok (.aload_n 0, 1) := by decide +kernel
theorem dL_law_665 : decode cL_law 665 = .ok (.iload_n 3, 1) := by decide +kernel
theorem dL_law_666 : decode cL_law 666 = .ok (.iconst 2, 1) := by decide +kernel
theorem dL_law_667 : decode cL_law 667 = .ok (.iadd, 1) := by decide +kernel
theorem dL_law_668 : decode cL_law 668 = .ok (.iaload, 1) := by decide +kernel
theorem dL_law_669 : decode cL_law 669 = .ok (.aload_n 0, 1) := by decide +kernel
theorem dL_law_670 : decode cL_law 670 = .ok (.iload_n 3, 1) := by decide +kernel
theorem dL_law_671 : decode cL_law 671 = .ok (.iconst 3, 1) := by decide +kernel
theorem dL_law_672 : decode cL_law 672 = .ok (.iadd, 1) := by decide +kernel
theorem dL_law_673 : decode cL_law 673 = .ok (.iaload, 1) := by decide +kernel
theorem dL_law_674 : decode cL_law 674 = .ok (.invokevirtual 77, 3) := by decide +kernel
theorem dL_law_677 : decode cL_law 677 = .ok (.aload_n 2, 1) := by decide +kernel
theorem dL_law_678 : decode cL_law 678 = .ok (.aload_n 0, 1) := by decide +kernel
theorem dL_law_679 : decode cL_law 679 = .ok (.iload_n 3, 1) := by decide +kernel
theorem dL_law_680 : decode cL_law 680 = .ok (.iconst 1, 1) := by decide +kernel
theorem dL_law_681 : decode cL_law 681 = .ok (.iadd, 1) := by decide +kernel
theorem dL_law_682 : decode cL_law 682 = .ok (.iaload, 1) := by decide +kernel
theorem dL_law_683 : decode cL_law 683 = .ok (.aload_n 0, 1) := by decide +kernel
theorem dL_law_684 : decode cL_law 684 = .ok (.iload_n 3, 1) := by decide +kernel
theorem dL_law_685 : decode cL_law 685 = .ok (.iconst 2, 1) := by decide +kernel
theorem dL_law_686 : decode cL_law 686 = .ok (.iadd, 1) := by decide +kernel
theorem dL_law_687 : decode cL_law 687 = .ok (.iaload, 1) := by decide +kernel
theorem dL_law_688 : decode cL_law 688 = .ok (.aload_n 0, 1) := by decide +kernel
theorem dL_law_689 : decode cL_law 689 = .ok (.iload_n 3, 1) := by decide +kernel
theorem dL_law_690 : decode cL_law 690 = .ok (.iconst 3, 1) := by decide +kernel
theorem dL_law_691 : decode cL_law 691 = .ok (.iadd, 1) := by decide +kernel
theorem dL_law_692 : decode cL_law 692 = .ok (.iaload, 1) := by decide +kernel
theorem dL_law_693 : decode cL_law 693 = .ok (.invokevirtual 80, 3) := by decide +kernel
theorem dL_law_696 : decode cL_law 696 = .ok (.if_icmp .eq 147, 3) := by decide +kernel
theorem dL_law_699 : decode cL_law 699 = .ok (.iconst 0, 1) := by decide +kernel
theorem dL_law_700 : decode cL_law 700 = .ok (.ireturn, 1) := by decide +kernel
theorem dL_law_701 : decode cL_law 701 = .ok (.aload_n 1, 1) := by decide +kernel
theorem dL_law_702 : decode cL_law 702 = .ok (.aload_n 0, 1) := by decide +kernel
theorem dL_law_703 : decode cL_law 703 = .ok (.iload_n 3, 1) := by decide +kernel
theorem dL_law_704 : decode cL_law 704 = .ok (.iconst 1, 1) := by decide +kernel
theorem dL_law_705 : decode cL_law 705 = .ok (.iadd, 1) := by decide +kernel
theorem dL_law_706 : decode cL_law 706 = .ok (.iaload, 1) := by decide +kernel
theorem dL_law_707 : decode cL_law 707 = .ok (.aload_n 0, 1) := by decide +kernel
theorem dL_law_708 : decode cL_law 708 = .ok (.iload_n 3, 1) := by decide +kernel
theorem dL_law_709 : decode cL_law 709 = .ok (.iconst 2, 1) := by decide +kernel
theorem dL_law_710 : decode cL_law 710 = .ok (.iadd, 1) := by decide +kernel
theorem dL_law_711 : decode cL_law 711 = .ok (.iaload, 1) := by decide +kernel
theorem dL_law_712 : decode cL_law 712 = .ok (.invokevirtual 81, 3) := by decide +kernel
theorem dL_law_715 : decode cL_law 715 = .ok (.aload_n 2, 1) := by decide +kernel
theorem dL_law_716 : decode cL_law 716 = .ok (.aload_n 0, 1) := by decide +kernel
theorem dL_law_717 : decode cL_law 717 = .ok (.iload_n 3, 1) := by decide +kernel
theorem dL_law_718 : decode cL_law 718 = .ok (.iconst 1, 1) := by decide +kernel
theorem dL_law_719 : decode cL_law 719 = .ok (.iadd, 1) := by decide +kernel
theorem dL_law_720 : decode cL_law 720 = .ok (.iaload, 1) := by decide +kernel
theorem dL_law_721 : decode cL_law 721 = .ok (.aload_n 0, 1) := by decide +kernel
theorem dL_law_722 : decode cL_law 722 = .ok (.iload_n 3, 1) := by decide +kernel
theorem dL_law_723 : decode cL_law 723 = .ok (.iconst 2, 1) := by decide +kernel
theorem dL_law_724 : decode cL_law 724 = .ok (.iadd, 1) := by decide +kernel
theorem dL_law_725 : decode cL_law 725 = .ok (.iaload, 1) := by decide +kernel
theorem dL_law_726 : decode cL_law 726 = .ok (.invokevirtual 84, 3) := by decide +kernel
theorem dL_law_729 : decode cL_law 729 = .ok (.if_icmp .eq 114, 3) := by decide +kernel
theorem dL_law_732 : decode cL_law 732 = .ok (.iconst 0, 1) := by decide +kernel
theorem dL_law_733 : decode cL_law 733 = .ok (.ireturn, 1) := by decide +kernel
theorem dL_law_734 : decode cL_law 734 = .ok (.aload_n 1, 1) := by decide +kernel
theorem dL_law_735 : decode cL_law 735 = .ok (.aload_n 0, 1) := by decide +kernel
theorem dL_law_736 : decode cL_law 736 = .ok (.iload_n 3, 1) := by decide +kernel
theorem dL_law_737 : decode cL_law 737 = .ok (.iconst 1, 1) := by decide +kernel
theorem dL_law_738 : decode cL_law 738 = .ok (.iadd, 1) := by decide +kernel
theorem dL_law_739 : decode cL_law 739 = .ok (.iaload, 1) := by decide +kernel
theorem dL_law_740 : decode cL_law 740 = .ok (.aload_n 0, 1) := by decide +kernel
theorem dL_law_741 : decode cL_law 741 = .ok (.iload_n 3, 1) := by decide +kernel
theorem dL_law_742 : decode cL_law 742 = .ok (.iconst 2, 1) := by decide +kernel
theorem dL_law_743 : decode cL_law 743 = .ok (.iadd, 1) := by decide +kernel
theorem dL_law_744 : decode cL_law 744 = .ok (.iaload, 1) := by decide +kernel
theorem dL_law_745 : decode cL_law 745 = .ok (.aload_n 0, 1) := by decide +kernel
theorem dL_law_746 : decode cL_law 746 = .ok (.iload_n 3, 1) := by decide +kernel
theorem dL_law_747 : decode cL_law 747 = .ok (.iconst 3, 1) := by decide +kernel
theorem dL_law_748 : decode cL_law 748 = .ok (.iadd, 1) := by decide +kernel
theorem dL_law_749 : decode cL_law 749 = .ok (.iaload, 1) := by decide +kernel
theorem dL_law_750 : decode cL_law 750 = .ok (.invokevirtual 85, 3) := by decide +kernel
theorem dL_law_753 : decode cL_law 753 = .ok (.aload_n 2, 1) := by decide +kernel
theorem dL_law_754 : decode cL_law 754 = .ok (.aload_n 0, 1) := by decide +kernel
theorem dL_law_755 : decode cL_law 755 = .ok (.iload_n 3, 1) := by decide +kernel
theorem dL_law_756 : decode cL_law 756 = .ok (.iconst 1, 1) := by decide +kernel
theorem dL_law_757 : decode cL_law 757 = .ok (.iadd, 1) := by decide +kernel
theorem dL_law_758 : decode cL_law 758 = .ok (.iaload, 1) := by decide +kernel
theorem dL_law_759 : decode cL_law 759 = .ok (.aload_n 0, 1) := by decide +kernel
theorem dL_law_760 : decode cL_law 760 = .ok (.iload_n 3, 1) := by decide +kernel
theorem dL_law_761 : decode cL_law 761 = .ok (.iconst 2, 1) := by decide +kernel
theorem dL_law_762 : decode cL_law 762 = .ok (.iadd, 1) := by decide +kernel
theorem dL_law_763 : decode cL_law 763 = .ok (.iaload, 1) := by decide +kernel
theorem dL_law_764 : decode cL_law 764 = .ok (.aload_n 0, 1) := by decide +kernel
theorem dL_law_765 : decode cL_law 765 = .ok (.iload_n 3, 1) := by decide +kernel
theorem dL_law_766 : decode cL_law 766 = .ok (.iconst 3, 1) := by decide +kernel
theorem dL_law_767 : decode cL_law 767 = .ok (.iadd, 1) := by decide +kernel
theorem dL_law_768 : decode cL_law 768 = .ok (.iaload, 1) := by decide +kernel
theorem dL_law_769 : decode cL_law 769 = .ok (.invokevirtual 88, 3) := by decide +kernel
theorem dL_law_772 : decode cL_law 772 = .ok (.if_icmp .eq 71, 3) := by decide +kernel
theorem dL_law_775 : decode cL_law 775 = .ok (.iconst 0, 1) := by decide +kernel
theorem dL_law_776 : decode cL_law 776 = .ok (.ireturn, 1) := by decide +kernel
theorem dL_law_777 : decode cL_law 777 = .ok (.aload_n 1, 1) := by decide +kernel
theorem dL_law_778 : decode cL_law 778 = .ok (.aload_n 0, 1) := by decide +kernel
theorem dL_law_779 : decode cL_law 779 = .ok (.iload_n 3, 1) := by decide +kernel
theorem dL_law_780 : decode cL_law 780 = .ok (.iconst 1, 1) := by decide +kernel
theorem dL_law_781 : decode cL_law 781 = .ok (.iadd, 1) := by decide +kernel
theorem dL_law_782 : decode cL_law 782 = .ok (.iaload, 1) := by decide +kernel
theorem dL_law_783 : decode cL_law 783 = .ok (.aload_n 0, 1) := by decide +kernel
theorem dL_law_784 : decode cL_law 784 = .ok (.iload_n 3, 1) := by decide +kernel
theorem dL_law_785 : decode cL_law 785 = .ok (.iconst 2, 1) := by decide +kernel
theorem dL_law_786 : decode cL_law 786 = .ok (.iadd, 1) := by decide +kernel
theorem dL_law_787 : decode cL_law 787 = .ok (.iaload, 1) := by decide +kernel
theorem dL_law_788 : decode cL_law 788 = .ok (.aload_n 0, 1) := by decide +kernel
theorem dL_law_789 : decode cL_law 789 = .ok (.iload_n 3, 1) := by decide +kernel
theorem dL_law_790 : decode cL_law 790 = .ok (.iconst 3, 1) := by decide +kernel
theorem dL_law_791 : decode cL_law 791 = .ok (.iadd, 1) := by decide +kernel
theorem dL_law_792 : decode cL_law 792 = .ok (.iaload, 1) := by decide +kernel
theorem dL_law_793 : decode cL_law 793 = .ok (.invokevirtual 89, 3) := by decide +kernel
theorem dL_law_796 : decode cL_law 796 = .ok (.aload_n 2, 1) := by decide +kernel
theorem dL_law_797 : decode cL_law 797 = .ok (.aload_n 0, 1) := by decide +kernel
theorem dL_law_798 : decode cL_law 798 = .ok (.iload_n 3, 1) := by decide +kernel
theorem dL_law_799 : decode cL_law 799 = .ok (.iconst 1, 1) := by decide +kernel
theorem dL_law_800 : decode cL_law 800 = .ok (.iadd, 1) := by decide +kernel
theorem dL_law_801 : decode cL_law 801 = .ok (.iaload, 1) := by decide +kernel
theorem dL_law_802 : decode cL_law 802 = .ok (.aload_n 0, 1) := by decide +kernel
theorem dL_law_803 : decode cL_law 803 = .ok (.iload_n 3, 1) := by decide +kernel
theorem dL_law_804 : decode cL_law 804 = .ok (.iconst 2, 1) := by decide +kernel
theorem dL_law_805 : decode cL_law 805 = .ok (.iadd, 1) := by decide +kernel
theorem dL_law_806 : decode cL_law 806 = .ok (.iaload, 1) := by decide +kernel
theorem dL_law_807 : decode cL_law 807 = .ok (.aload_n 0, 1) := by decide +kernel
theorem dL_law_808 : decode cL_law 808 = .ok (.iload_n 3, 1) := by decide +kernel
theorem dL_law_809 : decode cL_law 809 = .ok (.iconst 3, 1) := by decide +kernel
theorem dL_law_810 : decode cL_law 810 = .ok (.iadd, 1) := by decide +kernel
theorem dL_law_811 : decode cL_law 811 = .ok (.iaload, 1) := by decide +kernel
theorem dL_law_812 : decode cL_law 812 = .ok (.invokevirtual 92, 3) := by decide +kernel
theorem dL_law_815 : decode cL_law 815 = .ok (.if_icmp .eq 28, 3) := by decide +kernel
theorem dL_law_818 : decode cL_law 818 = .ok (.iconst 0, 1) := by decide +kernel
theorem dL_law_819 : decode cL_law 819 = .ok (.ireturn, 1) := by decide +kernel
theorem dL_law_820 : decode cL_law 820 = .ok (.aload_n 1, 1) := by decide +kernel
theorem dL_law_821 : decode cL_law 821 = .ok (.aload_n 0, 1) := by decide +kernel
theorem dL_law_822 : decode cL_law 822 = .ok (.iload_n 3, 1) := by decide +kernel
theorem dL_law_823 : decode cL_law 823 = .ok (.iconst 1, 1) := by decide +kernel
theorem dL_law_824 : decode cL_law 824 = .ok (.iadd, 1) := by decide +kernel
theorem dL_law_825 : decode cL_law 825 = .ok (.iaload, 1) := by decide +kernel
theorem dL_law_826 : decode cL_law 826 = .ok (.invokevirtual 93, 3) := by decide +kernel
theorem dL_law_829 : decode cL_law 829 = .ok (.aload_n 2, 1) := by decide +kernel
theorem dL_law_830 : decode cL_law 830 = .ok (.aload_n 0, 1) := by decide +kernel
theorem dL_law_831 : decode cL_law 831 = .ok (.iload_n 3, 1) := by decide +kernel
theorem dL_law_832 : decode cL_law 832 = .ok (.iconst 1, 1) := by decide +kernel
theorem dL_law_833 : decode cL_law 833 = .ok (.iadd, 1) := by decide +kernel
theorem dL_law_834 : decode cL_law 834 = .ok (.iaload, 1) := by decide +kernel
theorem dL_law_835 : decode cL_law 835 = .ok (.invokevirtual 97, 3) := by decide +kernel
theorem dL_law_838 : decode cL_law 838 = .ok (.if_icmp .eq 5, 3) := by decide +kernel
theorem dL_law_841 : decode cL_law 841 = .ok (.iconst 0, 1) := by decide +kernel
theorem dL_law_842 : decode cL_law 842 = .ok (.ireturn, 1) := by decide +kernel
theorem dL_law_843 : decode cL_law 843 = .ok (.iinc 3 6, 3) := by decide +kernel
theorem dL_law_846 : decode cL_law 846 = .ok (.goto (-828), 3) := by decide +kernel
theorem dL_law_849 : decode cL_law 849 = .ok (.iconst 1, 1) := by decide +kernel
theorem dL_law_850 : decode cL_law 850 = .ok (.ireturn, 1) := by decide +kernel
