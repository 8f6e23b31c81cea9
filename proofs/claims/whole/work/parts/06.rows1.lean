theorem d_Ex_init_0 : decode b_Ex_init 0 = .ok (.aload_n 0, 1) := by decide +kernel
theorem d_Ex_init_1 : decode b_Ex_init 1 = .ok (.invokespecial 1, 3) := by decide +kernel
theorem d_Ex_init_4 : decode b_Ex_init 4 = .ok (.aload_n 0, 1) := by decide +kernel
theorem d_Ex_init_5 : decode b_Ex_init 5 = .ok (.new 7, 3) := by decide +kernel
theorem d_Ex_init_8 : decode b_Ex_init 8 = .ok (.dup, 1) := by decide +kernel
theorem d_Ex_init_9 : decode b_Ex_init 9 = .ok (.invokespecial 9, 3) := by decide +kernel
theorem d_Ex_init_12 : decode b_Ex_init 12 = .ok (.putfield 10, 3) := by decide +kernel
theorem d_Ex_init_15 : decode b_Ex_init 15 = .ok (.aload_n 0, 1) := by decide +kernel
theorem d_Ex_init_16 : decode b_Ex_init 16 = .ok (.new 16, 3) := by decide +kernel
theorem d_Ex_init_19 : decode b_Ex_init 19 = .ok (.dup, 1) := by decide +kernel
theorem d_Ex_init_20 : decode b_Ex_init 20 = .ok (.invokespecial 18, 3) := by decide +kernel
theorem d_Ex_init_23 : decode b_Ex_init 23 = .ok (.putfield 19, 3) := by decide +kernel
theorem d_Ex_init_26 : decode b_Ex_init 26 = .ok (.aload_n 0, 1) := by decide +kernel
theorem d_Ex_init_27 : decode b_Ex_init 27 = .ok (.new 23, 3) := by decide +kernel
theorem d_Ex_init_30 : decode b_Ex_init 30 = .ok (.dup, 1) := by decide +kernel
theorem d_Ex_init_31 : decode b_Ex_init 31 = .ok (.invokespecial 25, 3) := by decide +kernel
theorem d_Ex_init_34 : decode b_Ex_init 34 = .ok (.putfield 26, 3) := by decide +kernel
theorem d_Ex_init_37 : decode b_Ex_init 37 = .ok (.aload_n 0, 1) := by decide +kernel
theorem d_Ex_init_38 : decode b_Ex_init 38 = .ok (.new 30, 3) := by decide +kernel
theorem d_Ex_init_41 : decode b_Ex_init 41 = .ok (.dup, 1) := by decide +kernel
theorem d_Ex_init_42 : decode b_Ex_init 42 = .ok (.invokespecial 32, 3) := by decide +kernel
theorem d_Ex_init_45 : decode b_Ex_init 45 = .ok (.putfield 33, 3) := by decide +kernel
theorem d_Ex_init_48 : decode b_Ex_init 48 = .ok (.aload_n 0, 1) := by decide +kernel
theorem d_Ex_init_49 : decode b_Ex_init 49 = .ok (.sipush 240, 3) := by decide +kernel
theorem d_Ex_init_52 : decode b_Ex_init 52 = .ok (.newarray .int, 2) := by decide +kernel
theorem d_Ex_init_54 : decode b_Ex_init 54 = .ok (.putfield 37, 3) := by decide +kernel
theorem d_Ex_init_57 : decode b_Ex_init 57 = .ok (.aload_n 0, 1) := by decide +kernel
theorem d_Ex_init_58 : decode b_Ex_init 58 = .ok (.iconst 0, 1) := by decide +kernel
theorem d_Ex_init_59 : decode b_Ex_init 59 = .ok (.putfield 41, 3) := by decide +kernel
theorem d_Ex_init_62 : decode b_Ex_init 62 = .ok (.aload_n 0, 1) := by decide +kernel
theorem d_Ex_init_63 : decode b_Ex_init 63 = .ok (.iconst 1, 1) := by decide +kernel
theorem d_Ex_init_64 : decode b_Ex_init 64 = .ok (.putfield 45, 3) := by decide +kernel
theorem d_Ex_init_67 : decode b_Ex_init 67 = .ok (.aload_n 0, 1) := by decide +kernel
theorem d_Ex_init_68 : decode b_Ex_init 68 = .ok (.iconst 0, 1) := by decide +kernel
theorem d_Ex_init_69 : decode b_Ex_init 69 = .ok (.putfield 49, 3) := by decide +kernel
theorem d_Ex_init_72 : decode b_Ex_init 72 = .ok (.return_, 1) := by decide +kernel
theorem d_Tl_init_0 : decode b_Tl_init 0 = .ok (.aload_n 0, 1) := by decide +kernel
theorem d_Tl_init_1 : decode b_Tl_init 1 = .ok (.invokespecial 3, 3) := by decide +kernel
theorem d_Tl_init_4 : decode b_Tl_init 4 = .ok (.aload_n 0, 1) := by decide +kernel
theorem d_Tl_init_5 : decode b_Tl_init 5 = .ok (.bipush 6, 2) := by decide +kernel
theorem d_Tl_init_7 : decode b_Tl_init 7 = .ok (.anewarray 9, 3) := by decide +kernel
theorem d_Tl_init_10 : decode b_Tl_init 10 = .ok (.putfield 11, 3) := by decide +kernel
theorem d_Tl_init_13 : decode b_Tl_init 13 = .ok (.iconst 0, 1) := by decide +kernel
theorem d_Tl_init_14 : decode b_Tl_init 14 = .ok (.istore_n 1, 1) := by decide +kernel
theorem d_Tl_init_15 : decode b_Tl_init 15 = .ok (.iload_n 1, 1) := by decide +kernel
theorem d_Tl_init_16 : decode b_Tl_init 16 = .ok (.bipush 6, 2) := by decide +kernel
theorem d_Tl_init_18 : decode b_Tl_init 18 = .ok (.if_icmp .ge 22, 3) := by decide +kernel
theorem d_Tl_init_21 : decode b_Tl_init 21 = .ok (.aload_n 0, 1) := by decide +kernel
theorem d_Tl_init_22 : decode b_Tl_init 22 = .ok (.getfield 11, 3) := by decide +kernel
theorem d_Tl_init_25 : decode b_Tl_init 25 = .ok (.iload_n 1, 1) := by decide +kernel
theorem d_Tl_init_26 : decode b_Tl_init 26 = .ok (.new 9, 3) := by decide +kernel
theorem d_Tl_init_29 : decode b_Tl_init 29 = .ok (.dup, 1) := by decide +kernel
theorem d_Tl_init_30 : decode b_Tl_init 30 = .ok (.invokespecial 17, 3) := by decide +kernel
theorem d_Tl_init_33 : decode b_Tl_init 33 = .ok (.aastore, 1) := by decide +kernel
theorem d_Tl_init_34 : decode b_Tl_init 34 = .ok (.iinc 1 1, 3) := by decide +kernel
theorem d_Tl_init_37 : decode b_Tl_init 37 = .ok (.goto (-22), 3) := by decide +kernel
theorem d_Tl_init_40 : decode b_Tl_init 40 = .ok (.return_, 1) := by decide +kernel
theorem d_Tk_init_0 : decode b_Tk_init 0 = .ok (.aload_n 0, 1) := by decide +kernel
theorem d_Tk_init_1 : decode b_Tk_init 1 = .ok (.invokespecial 3, 3) := by decide +kernel
theorem d_Tk_init_4 : decode b_Tk_init 4 = .ok (.aload_n 0, 1) := by decide +kernel
theorem d_Tk_init_5 : decode b_Tk_init 5 = .ok (.iconst 1, 1) := by decide +kernel
theorem d_Tk_init_6 : decode b_Tk_init 6 = .ok (.putfield 9, 3) := by decide +kernel
theorem d_Tk_init_9 : decode b_Tk_init 9 = .ok (.aload_n 0, 1) := by decide +kernel
theorem d_Tk_init_10 : decode b_Tk_init 10 = .ok (.new 15, 3) := by decide +kernel
theorem d_Tk_init_13 : decode b_Tk_init 13 = .ok (.dup, 1) := by decide +kernel
theorem d_Tk_init_14 : decode b_Tk_init 14 = .ok (.invokespecial 17, 3) := by decide +kernel
theorem d_Tk_init_17 : decode b_Tk_init 17 = .ok (.putfield 18, 3) := by decide +kernel
theorem d_Tk_init_20 : decode b_Tk_init 20 = .ok (.aload_n 0, 1) := by decide +kernel
theorem d_Tk_init_21 : decode b_Tk_init 21 = .ok (.iconst 4, 1) := by decide +kernel
theorem d_Tk_init_22 : decode b_Tk_init 22 = .ok (.newarray .int, 2) := by decide +kernel
theorem d_Tk_init_24 : decode b_Tk_init 24 = .ok (.putfield 22, 3) := by decide +kernel
theorem d_Tk_init_27 : decode b_Tk_init 27 = .ok (.return_, 1) := by decide +kernel
theorem d_Jb_init_0 : decode b_Jb_init 0 = .ok (.aload_n 0, 1) := by decide +kernel
theorem d_Jb_init_1 : decode b_Jb_init 1 = .ok (.invokespecial 3, 3) := by decide +kernel
theorem d_Jb_init_4 : decode b_Jb_init 4 = .ok (.aload_n 0, 1) := by decide +kernel
theorem d_Jb_init_5 : decode b_Jb_init 5 = .ok (.iconst 4, 1) := by decide +kernel
theorem d_Jb_init_6 : decode b_Jb_init 6 = .ok (.newarray .int, 2) := by decide +kernel
theorem d_Jb_init_8 : decode b_Jb_init 8 = .ok (.putfield 9, 3) := by decide +kernel
theorem d_Jb_init_11 : decode b_Jb_init 11 = .ok (.return_, 1) := by decide +kernel
theorem d_Tb_init_0 : decode b_Tb_init 0 = .ok (.aload_n 0, 1) := by decide +kernel
theorem d_Tb_init_1 : decode b_Tb_init 1 = .ok (.invokespecial 3, 3) := by decide +kernel
theorem d_Tb_init_4 : decode b_Tb_init 4 = .ok (.aload_n 0, 1) := by decide +kernel
theorem d_Tb_init_5 : decode b_Tb_init 5 = .ok (.bipush 60, 2) := by decide +kernel
theorem d_Tb_init_7 : decode b_Tb_init 7 = .ok (.newarray .int, 2) := by decide +kernel
theorem d_Tb_init_9 : decode b_Tb_init 9 = .ok (.putfield 9, 3) := by decide +kernel
theorem d_Tb_init_12 : decode b_Tb_init 12 = .ok (.aload_n 0, 1) := by decide +kernel
theorem d_Tb_init_13 : decode b_Tb_init 13 = .ok (.bipush 60, 2) := by decide +kernel
theorem d_Tb_init_15 : decode b_Tb_init 15 = .ok (.newarray .int, 2) := by decide +kernel
theorem d_Tb_init_17 : decode b_Tb_init 17 = .ok (.putfield 15, 3) := by decide +kernel
theorem d_Tb_init_20 : decode b_Tb_init 20 = .ok (.aload_n 0, 1) := by decide +kernel
theorem d_Tb_init_21 : decode b_Tb_init 21 = .ok (.bipush 60, 2) := by decide +kernel
theorem d_Tb_init_23 : decode b_Tb_init 23 = .ok (.newarray .int, 2) := by decide +kernel
theorem d_Tb_init_25 : decode b_Tb_init 25 = .ok (.putfield 18, 3) := by decide +kernel
theorem d_Tb_init_28 : decode b_Tb_init 28 = .ok (.return_, 1) := by decide +kernel
theorem d_Pl_init_0 : decode b_Pl_init 0 = .ok (.aload_n 0, 1) := by decide +kernel
theorem d_Pl_init_1 : decode b_Pl_init 1 = .ok (.invokespecial 3, 3) := by decide +kernel
theorem d_Pl_init_4 : decode b_Pl_init 4 = .ok (.aload_n 0, 1) := by decide +kernel
theorem d_Pl_init_5 : decode b_Pl_init 5 = .ok (.bipush 6, 2) := by decide +kernel
theorem d_Pl_init_7 : decode b_Pl_init 7 = .ok (.newarray .int, 2) := by decide +kernel
theorem d_Pl_init_9 : decode b_Pl_init 9 = .ok (.putfield 9, 3) := by decide +kernel
theorem d_Pl_init_12 : decode b_Pl_init 12 = .ok (.aload_n 0, 1) := by decide +kernel
theorem d_Pl_init_13 : decode b_Pl_init 13 = .ok (.bipush 6, 2) := by decide +kernel
theorem d_Pl_init_15 : decode b_Pl_init 15 = .ok (.newarray .int, 2) := by decide +kernel
theorem d_Pl_init_17 : decode b_Pl_init 17 = .ok (.putfield 15, 3) := by decide +kernel
theorem d_Pl_init_20 : decode b_Pl_init 20 = .ok (.return_, 1) := by decide +kernel
theorem d_Mc_init_0 : decode b_Mc_init 0 = .ok (.aload_n 0, 1) := by decide +kernel
theorem d_Mc_init_1 : decode b_Mc_init 1 = .ok (.invokespecial 3, 3) := by decide +kernel
theorem d_Mc_init_4 : decode b_Mc_init 4 = .ok (.aload_n 0, 1) := by decide +kernel
theorem d_Mc_init_5 : decode b_Mc_init 5 = .ok (.bipush 64, 2) := by decide +kernel
theorem d_Mc_init_7 : decode b_Mc_init 7 = .ok (.newarray .int, 2) := by decide +kernel
theorem d_Mc_init_9 : decode b_Mc_init 9 = .ok (.putfield 9, 3) := by decide +kernel
theorem d_Mc_init_12 : decode b_Mc_init 12 = .ok (.aload_n 0, 1) := by decide +kernel
theorem d_Mc_init_13 : decode b_Mc_init 13 = .ok (.bipush 16, 2) := by decide +kernel
theorem d_Mc_init_15 : decode b_Mc_init 15 = .ok (.newarray .int, 2) := by decide +kernel
theorem d_Mc_init_17 : decode b_Mc_init 17 = .ok (.putfield 15, 3) := by decide +kernel
theorem d_Mc_init_20 : decode b_Mc_init 20 = .ok (.return_, 1) := by decide +kernel
theorem d_Ex_round_0 : decode b_Ex_round 0 = .ok (.aload_n 0, 1) := by decide +kernel
theorem d_Ex_round_1 : decode b_Ex_round 1 = .ok (.getfield 10, 3) := by decide +kernel
theorem d_Ex_round_4 : decode b_Ex_round 4 = .ok (.invokevirtual 95, 3) := by decide +kernel
theorem d_Ex_round_7 : decode b_Ex_round 7 = .ok (.ireturn, 1) := by decide +kernel
theorem d_Tl_commonRound_0 : decode b_Tl_commonRound 0 = .ok (.iconst 1, 1) := by decide +kernel
theorem d_Tl_commonRound_1 : decode b_Tl_commonRound 1 = .ok (.istore_n 1, 1) := by decide +kernel
theorem d_Tl_commonRound_2 : decode b_Tl_commonRound 2 = .ok (.iload_n 1, 1) := by decide +kernel
theorem d_Tl_commonRound_3 : decode b_Tl_commonRound 3 = .ok (.sipush 240, 3) := by decide +kernel
theorem d_Tl_commonRound_6 : decode b_Tl_commonRound 6 = .ok (.if_icmp .gt 19, 3) := by decide +kernel
theorem d_Tl_commonRound_9 : decode b_Tl_commonRound 9 = .ok (.aload_n 0, 1) := by decide +kernel
theorem d_Tl_commonRound_10 : decode b_Tl_commonRound 10 = .ok (.iload_n 1, 1) := by decide +kernel
theorem d_Tl_commonRound_11 : decode b_Tl_commonRound 11 = .ok (.invokevirtual 40, 3) := by decide +kernel
theorem d_Tl_commonRound_14 : decode b_Tl_commonRound 14 = .ok (.ifCond .eq 5, 3) := by decide +kernel
theorem d_Tl_commonRound_17 : decode b_Tl_commonRound 17 = .ok (.iload_n 1, 1) := by decide +kernel
theorem d_Tl_commonRound_18 : decode b_Tl_commonRound 18 = .ok (.ireturn, 1) := by decide +kernel
theorem d_Tl_commonRound_19 : decode b_Tl_commonRound 19 = .ok (.iinc 1 1, 3) := by decide +kernel
theorem d_Tl_commonRound_22 : decode b_Tl_commonRound 22 = .ok (.goto (-20), 3) := by decide +kernel
theorem d_Tl_commonRound_25 : decode b_Tl_commonRound 25 = .ok (.bipush (-3), 2) := by decide +kernel
theorem d_Tl_commonRound_27 : decode b_Tl_commonRound 27 = .ok (.ireturn, 1) := by decide +kernel
theorem d_Tl_isCommonMultiple_0 : decode b_Tl_isCommonMultiple 0 = .ok (.iconst 0, 1) := by decide +kernel
theorem d_Tl_isCommonMultiple_1 : decode b_Tl_isCommonMultiple 1 = .ok (.istore_n 2, 1) := by decide +kernel
theorem d_Tl_isCommonMultiple_2 : decode b_Tl_isCommonMultiple 2 = .ok (.iload_n 2, 1) := by decide +kernel
theorem d_Tl_isCommonMultiple_3 : decode b_Tl_isCommonMultiple 3 = .ok (.aload_n 0, 1) := by decide +kernel
theorem d_Tl_isCommonMultiple_4 : decode b_Tl_isCommonMultiple 4 = .ok (.getfield 18, 3) := by decide +kernel
theorem d_Tl_isCommonMultiple_7 : decode b_Tl_isCommonMultiple 7 = .ok (.if_icmp .ge 25, 3) := by decide +kernel
theorem d_Tl_isCommonMultiple_10 : decode b_Tl_isCommonMultiple 10 = .ok (.iload_n 1, 1) := by decide +kernel
theorem d_Tl_isCommonMultiple_11 : decode b_Tl_isCommonMultiple 11 = .ok (.aload_n 0, 1) := by decide +kernel
theorem d_Tl_isCommonMultiple_12 : decode b_Tl_isCommonMultiple 12 = .ok (.getfield 11, 3) := by decide +kernel
theorem d_Tl_isCommonMultiple_15 : decode b_Tl_isCommonMultiple 15 = .ok (.iload_n 2, 1) := by decide +kernel
theorem d_Tl_isCommonMultiple_16 : decode b_Tl_isCommonMultiple 16 = .ok (.aaload, 1) := by decide +kernel
theorem d_Tl_isCommonMultiple_17 : decode b_Tl_isCommonMultiple 17 = .ok (.getfield 22, 3) := by decide +kernel
theorem d_Tl_isCommonMultiple_20 : decode b_Tl_isCommonMultiple 20 = .ok (.irem, 1) := by decide +kernel
theorem d_Tl_isCommonMultiple_21 : decode b_Tl_isCommonMultiple 21 = .ok (.ifCond .eq 5, 3) := by decide +kernel
theorem d_Tl_isCommonMultiple_24 : decode b_Tl_isCommonMultiple 24 = .ok (.iconst 0, 1) := by decide +kernel
theorem d_Tl_isCommonMultiple_25 : decode b_Tl_isCommonMultiple 25 = .ok (.ireturn, 1) := by decide +kernel
theorem d_Tl_isCommonMultiple_26 : decode b_Tl_isCommonMultiple 26 = .ok (.iinc 2 1, 3) := by decide +kernel
theorem d_Tl_isCommonMultiple_29 : decode b_Tl_isCommonMultiple 29 = .ok (.goto (-27), 3) := by decide +kernel
theorem d_Tl_isCommonMultiple_32 : decode b_Tl_isCommonMultiple 32 = .ok (.iconst 1, 1) := by decide +kernel
theorem d_Tl_isCommonMultiple_33 : decode b_Tl_isCommonMultiple 33 = .ok (.ireturn, 1) := by decide +kernel
theorem d_Ex_slots_0 : decode b_Ex_slots 0 = .ok (.aload_n 0, 1) := by decide +kernel
theorem d_Ex_slots_1 : decode b_Ex_slots 1 = .ok (.getfield 19, 3) := by decide +kernel
theorem d_Ex_slots_4 : decode b_Ex_slots 4 = .ok (.getfield 94, 3) := by decide +kernel
theorem d_Ex_slots_7 : decode b_Ex_slots 7 = .ok (.ireturn, 1) := by decide +kernel
theorem d_Ex_time_0 : decode b_Ex_time 0 = .ok (.aload_n 0, 1) := by decide +kernel
theorem d_Ex_time_1 : decode b_Ex_time 1 = .ok (.getfield 49, 3) := by decide +kernel
theorem d_Ex_time_4 : decode b_Ex_time 4 = .ok (.ireturn, 1) := by decide +kernel
theorem d_Ex_load_0 : decode b_Ex_load 0 = .ok (.aload_n 0, 1) := by decide +kernel
theorem d_Ex_load_1 : decode b_Ex_load 1 = .ok (.invokevirtual 52, 3) := by decide +kernel
theorem d_Ex_load_4 : decode b_Ex_load 4 = .ok (.iload_n 1, 1) := by decide +kernel
theorem d_Ex_load_5 : decode b_Ex_load 5 = .ok (.bipush 64, 2) := by decide +kernel
theorem d_Ex_load_7 : decode b_Ex_load 7 = .ok (.invokestatic 55, 3) := by decide +kernel
theorem d_Ex_load_10 : decode b_Ex_load 10 = .ok (.aload_n 0, 1) := by decide +kernel
theorem d_Ex_load_11 : decode b_Ex_load 11 = .ok (.getfield 33, 3) := by decide +kernel
theorem d_Ex_load_14 : decode b_Ex_load 14 = .ok (.getfield 59, 3) := by decide +kernel
theorem d_Ex_load_17 : decode b_Ex_load 17 = .ok (.iload_n 1, 1) := by decide +kernel
theorem d_Ex_load_18 : decode b_Ex_load 18 = .ok (.iload_n 2, 1) := by decide +kernel
theorem d_Ex_load_19 : decode b_Ex_load 19 = .ok (.iastore, 1) := by decide +kernel
theorem d_Ex_load_20 : decode b_Ex_load 20 = .ok (.return_, 1) := by decide +kernel
theorem d_Ex_needEdit_0 : decode b_Ex_needEdit 0 = .ok (.aload_n 0, 1) := by decide +kernel
theorem d_Ex_needEdit_1 : decode b_Ex_needEdit 1 = .ok (.getfield 41, 3) := by decide +kernel
theorem d_Ex_needEdit_4 : decode b_Ex_needEdit 4 = .ok (.ifCond .eq 13, 3) := by decide +kernel
theorem d_Ex_needEdit_7 : decode b_Ex_needEdit 7 = .ok (.new 65, 3) := by decide +kernel
theorem d_Ex_needEdit_10 : decode b_Ex_needEdit 10 = .ok (.dup, 1) := by decide +kernel
theorem d_Ex_needEdit_11 : decode b_Ex_needEdit 11 = .ok (.ldc 148, 2) := by decide +kernel
theorem d_Ex_needEdit_13 : decode b_Ex_needEdit 13 = .ok (.invokespecial 69, 3) := by decide +kernel
theorem d_Ex_needEdit_16 : decode b_Ex_needEdit 16 = .ok (.athrow, 1) := by decide +kernel
theorem d_Ex_needEdit_17 : decode b_Ex_needEdit 17 = .ok (.return_, 1) := by decide +kernel
theorem d_Ex_needIndex_0 : decode b_Ex_needIndex 0 = .ok (.iload_n 0, 1) := by decide +kernel
theorem d_Ex_needIndex_1 : decode b_Ex_needIndex 1 = .ok (.ifCond .lt 8, 3) := by decide +kernel
theorem d_Ex_needIndex_4 : decode b_Ex_needIndex 4 = .ok (.iload_n 0, 1) := by decide +kernel
theorem d_Ex_needIndex_5 : decode b_Ex_needIndex 5 = .ok (.iload_n 1, 1) := by decide +kernel
theorem d_Ex_needIndex_6 : decode b_Ex_needIndex 6 = .ok (.if_icmp .lt 13, 3) := by decide +kernel
theorem d_Ex_needIndex_9 : decode b_Ex_needIndex 9 = .ok (.new 152, 3) := by decide +kernel
theorem d_Ex_needIndex_12 : decode b_Ex_needIndex 12 = .ok (.dup, 1) := by decide +kernel
theorem d_Ex_needIndex_13 : decode b_Ex_needIndex 13 = .ok (.ldc 154, 2) := by decide +kernel
theorem d_Ex_needIndex_15 : decode b_Ex_needIndex 15 = .ok (.invokespecial 156, 3) := by decide +kernel
theorem d_Ex_needIndex_18 : decode b_Ex_needIndex 18 = .ok (.athrow, 1) := by decide +kernel
theorem d_Ex_needIndex_19 : decode b_Ex_needIndex 19 = .ok (.return_, 1) := by decide +kernel
theorem d_Ex_task_0 : decode b_Ex_task 0 = .ok (.aload_n 0, 1) := by decide +kernel
theorem d_Ex_task_1 : decode b_Ex_task 1 = .ok (.invokevirtual 52, 3) := by decide +kernel
theorem d_Ex_task_4 : decode b_Ex_task 4 = .ok (.aload_n 0, 1) := by decide +kernel
theorem d_Ex_task_5 : decode b_Ex_task 5 = .ok (.getfield 10, 3) := by decide +kernel
theorem d_Ex_task_8 : decode b_Ex_task 8 = .ok (.getfield 62, 3) := by decide +kernel
theorem d_Ex_task_11 : decode b_Ex_task 11 = .ok (.bipush 6, 2) := by decide +kernel
theorem d_Ex_task_13 : decode b_Ex_task 13 = .ok (.if_icmp .ne 13, 3) := by decide +kernel
theorem d_Ex_task_16 : decode b_Ex_task 16 = .ok (.new 65, 3) := by decide +kernel
theorem d_Ex_task_19 : decode b_Ex_task 19 = .ok (.dup, 1) := by decide +kernel
theorem d_Ex_task_20 : decode b_Ex_task 20 = .ok (.ldc 67, 2) := by decide +kernel
theorem d_Ex_task_22 : decode b_Ex_task 22 = .ok (.invokespecial 69, 3) := by decide +kernel
theorem d_Ex_task_25 : decode b_Ex_task 25 = .ok (.athrow, 1) := by decide +kernel
theorem d_Ex_task_26 : decode b_Ex_task 26 = .ok (.iload_n 1, 1) := by decide +kernel
theorem d_Ex_task_27 : decode b_Ex_task 27 = .ok (.iload_n 2, 1) := by decide +kernel
theorem d_Ex_task_28 : decode b_Ex_task 28 = .ok (.iload_n 3, 1) := by decide +kernel
theorem d_Ex_task_29 : decode b_Ex_task 29 = .ok (.iload 4, 2) := by decide +kernel
theorem d_Ex_task_31 : decode b_Ex_task 31 = .ok (.invokestatic 72, 3) := by decide +kernel
theorem d_Ex_task_34 : decode b_Ex_task 34 = .ok (.ifCond .ne 13, 3) := by decide +kernel
theorem d_Ex_task_37 : decode b_Ex_task 37 = .ok (.new 76, 3) := by decide +kernel
theorem d_Ex_task_40 : decode b_Ex_task 40 = .ok (.dup, 1) := by decide +kernel
theorem d_Ex_task_41 : decode b_Ex_task 41 = .ok (.ldc 78, 2) := by decide +kernel
theorem d_Ex_task_43 : decode b_Ex_task 43 = .ok (.invokespecial 80, 3) := by decide +kernel
theorem d_Ex_task_46 : decode b_Ex_task 46 = .ok (.athrow, 1) := by decide +kernel
theorem d_Ex_task_47 : decode b_Ex_task 47 = .ok (.aload_n 0, 1) := by decide +kernel
theorem d_Ex_task_48 : decode b_Ex_task 48 = .ok (.getfield 10, 3) := by decide +kernel
theorem d_Ex_task_51 : decode b_Ex_task 51 = .ok (.iload_n 1, 1) := by decide +kernel
theorem d_Ex_task_52 : decode b_Ex_task 52 = .ok (.iload_n 2, 1) := by decide +kernel
theorem d_Ex_task_53 : decode b_Ex_task 53 = .ok (.iload_n 3, 1) := by decide +kernel
theorem d_Ex_task_54 : decode b_Ex_task 54 = .ok (.iload 4, 2) := by decide +kernel
theorem d_Ex_task_56 : decode b_Ex_task 56 = .ok (.invokevirtual 81, 3) := by decide +kernel
theorem d_Ex_task_59 : decode b_Ex_task 59 = .ok (.ireturn, 1) := by decide +kernel
theorem d_Ex_isTask_0 : decode b_Ex_isTask 0 = .ok (.iload_n 0, 1) := by decide +kernel
theorem d_Ex_isTask_1 : decode b_Ex_isTask 1 = .ok (.iconst 1, 1) := by decide +kernel
theorem d_Ex_isTask_2 : decode b_Ex_isTask 2 = .ok (.if_icmp .lt 38, 3) := by decide +kernel
theorem d_Ex_isTask_5 : decode b_Ex_isTask 5 = .ok (.iload_n 0, 1) := by decide +kernel
theorem d_Ex_isTask_6 : decode b_Ex_isTask 6 = .ok (.bipush 48, 2) := by decide +kernel
theorem d_Ex_isTask_8 : decode b_Ex_isTask 8 = .ok (.if_icmp .gt 32, 3) := by decide +kernel
theorem d_Ex_isTask_11 : decode b_Ex_isTask 11 = .ok (.iload_n 1, 1) := by decide +kernel
theorem d_Ex_isTask_12 : decode b_Ex_isTask 12 = .ok (.iconst 1, 1) := by decide +kernel
theorem d_Ex_isTask_13 : decode b_Ex_isTask 13 = .ok (.if_icmp .lt 27, 3) := by decide +kernel
theorem d_Ex_isTask_16 : decode b_Ex_isTask 16 = .ok (.iload_n 1, 1) := by decide +kernel
theorem d_Ex_isTask_17 : decode b_Ex_isTask 17 = .ok (.iload_n 2, 1) := by decide +kernel
theorem d_Ex_isTask_18 : decode b_Ex_isTask 18 = .ok (.if_icmp .gt 22, 3) := by decide +kernel
theorem d_Ex_isTask_21 : decode b_Ex_isTask 21 = .ok (.iload_n 2, 1) := by decide +kernel
theorem d_Ex_isTask_22 : decode b_Ex_isTask 22 = .ok (.iload_n 0, 1) := by decide +kernel
theorem d_Ex_isTask_23 : decode b_Ex_isTask 23 = .ok (.if_icmp .gt 17, 3) := by decide +kernel
theorem d_Ex_isTask_26 : decode b_Ex_isTask 26 = .ok (.iload_n 3, 1) := by decide +kernel
theorem d_Ex_isTask_27 : decode b_Ex_isTask 27 = .ok (.ifCond .lt 13, 3) := by decide +kernel
theorem d_Ex_isTask_30 : decode b_Ex_isTask 30 = .ok (.iload_n 3, 1) := by decide +kernel
theorem d_Ex_isTask_31 : decode b_Ex_isTask 31 = .ok (.bipush 48, 2) := by decide +kernel
theorem d_Ex_isTask_33 : decode b_Ex_isTask 33 = .ok (.if_icmp .gt 7, 3) := by decide +kernel
theorem d_Ex_isTask_36 : decode b_Ex_isTask 36 = .ok (.iconst 1, 1) := by decide +kernel
theorem d_Ex_isTask_37 : decode b_Ex_isTask 37 = .ok (.goto 4, 3) := by decide +kernel
theorem d_Ex_isTask_40 : decode b_Ex_isTask 40 = .ok (.iconst 0, 1) := by decide +kernel
theorem d_Ex_isTask_41 : decode b_Ex_isTask 41 = .ok (.ireturn, 1) := by decide +kernel
theorem d_Tl_append_0 : decode b_Tl_append 0 = .ok (.aload_n 0, 1) := by decide +kernel
theorem d_Tl_append_1 : decode b_Tl_append 1 = .ok (.getfield 11, 3) := by decide +kernel
theorem d_Tl_append_4 : decode b_Tl_append 4 = .ok (.aload_n 0, 1) := by decide +kernel
theorem d_Tl_append_5 : decode b_Tl_append 5 = .ok (.getfield 18, 3) := by decide +kernel
theorem d_Tl_append_8 : decode b_Tl_append 8 = .ok (.aaload, 1) := by decide +kernel
theorem d_Tl_append_9 : decode b_Tl_append 9 = .ok (.astore 5, 2) := by decide +kernel
theorem d_Tl_append_11 : decode b_Tl_append 11 = .ok (.aload 5, 2) := by decide +kernel
theorem d_Tl_append_13 : decode b_Tl_append 13 = .ok (.iload_n 1, 1) := by decide +kernel
theorem d_Tl_append_14 : decode b_Tl_append 14 = .ok (.putfield 22, 3) := by decide +kernel
theorem d_Tl_append_17 : decode b_Tl_append 17 = .ok (.aload 5, 2) := by decide +kernel
theorem d_Tl_append_19 : decode b_Tl_append 19 = .ok (.iload_n 2, 1) := by decide +kernel
theorem d_Tl_append_20 : decode b_Tl_append 20 = .ok (.putfield 25, 3) := by decide +kernel
theorem d_Tl_append_23 : decode b_Tl_append 23 = .ok (.aload 5, 2) := by decide +kernel
theorem d_Tl_append_25 : decode b_Tl_append 25 = .ok (.iload_n 3, 1) := by decide +kernel
theorem d_Tl_append_26 : decode b_Tl_append 26 = .ok (.putfield 28, 3) := by decide +kernel
theorem d_Tl_append_29 : decode b_Tl_append 29 = .ok (.aload 5, 2) := by decide +kernel
theorem d_Tl_append_31 : decode b_Tl_append 31 = .ok (.iload 4, 2) := by decide +kernel
theorem d_Tl_append_33 : decode b_Tl_append 33 = .ok (.putfield 31, 3) := by decide +kernel
theorem d_Tl_append_36 : decode b_Tl_append 36 = .ok (.aload 5, 2) := by decide +kernel
theorem d_Tl_append_38 : decode b_Tl_append 38 = .ok (.bipush 8, 2) := by decide +kernel
theorem d_Tl_append_40 : decode b_Tl_append 40 = .ok (.aload_n 0, 1) := by decide +kernel
theorem d_Tl_append_41 : decode b_Tl_append 41 = .ok (.getfield 18, 3) := by decide +kernel
theorem d_Tl_append_44 : decode b_Tl_append 44 = .ok (.imul, 1) := by decide +kernel
theorem d_Tl_append_45 : decode b_Tl_append 45 = .ok (.putfield 34, 3) := by decide +kernel
theorem d_Tl_append_48 : decode b_Tl_append 48 = .ok (.aload 5, 2) := by decide +kernel
theorem d_Tl_append_50 : decode b_Tl_append 50 = .ok (.invokevirtual 37, 3) := by decide +kernel
theorem d_Tl_append_53 : decode b_Tl_append 53 = .ok (.aload_n 0, 1) := by decide +kernel
theorem d_Tl_append_54 : decode b_Tl_append 54 = .ok (.dup, 1) := by decide +kernel
theorem d_Tl_append_55 : decode b_Tl_append 55 = .ok (.getfield 18, 3) := by decide +kernel
theorem d_Tl_append_58 : decode b_Tl_append 58 = .ok (.iconst 1, 1) := by decide +kernel
theorem d_Tl_append_59 : decode b_Tl_append 59 = .ok (.iadd, 1) := by decide +kernel
theorem d_Tl_append_60 : decode b_Tl_append 60 = .ok (.putfield 18, 3) := by decide +kernel
theorem d_Tl_append_63 : decode b_Tl_append 63 = .ok (.aload_n 0, 1) := by decide +kernel
theorem d_Tl_append_64 : decode b_Tl_append 64 = .ok (.getfield 18, 3) := by decide +kernel
theorem d_Tl_append_67 : decode b_Tl_append 67 = .ok (.iconst 1, 1) := by decide +kernel
theorem d_Tl_append_68 : decode b_Tl_append 68 = .ok (.isub, 1) := by decide +kernel
theorem d_Tl_append_69 : decode b_Tl_append 69 = .ok (.ireturn, 1) := by decide +kernel
theorem d_Tk_forgetRun_0 : decode b_Tk_forgetRun 0 = .ok (.aload_n 0, 1) := by decide +kernel
theorem d_Tk_forgetRun_1 : decode b_Tk_forgetRun 1 = .ok (.getfield 18, 3) := by decide +kernel
theorem d_Tk_forgetRun_4 : decode b_Tk_forgetRun 4 = .ok (.iconst 0, 1) := by decide +kernel
theorem d_Tk_forgetRun_5 : decode b_Tk_forgetRun 5 = .ok (.putfield 29, 3) := by decide +kernel
theorem d_Tk_forgetRun_8 : decode b_Tk_forgetRun 8 = .ok (.aload_n 0, 1) := by decide +kernel
theorem d_Tk_forgetRun_9 : decode b_Tk_forgetRun 9 = .ok (.getfield 22, 3) := by decide +kernel
theorem d_Tk_forgetRun_12 : decode b_Tk_forgetRun 12 = .ok (.iconst 0, 1) := by decide +kernel
theorem d_Tk_forgetRun_13 : decode b_Tk_forgetRun 13 = .ok (.invokestatic 33, 3) := by decide +kernel
theorem d_Tk_forgetRun_16 : decode b_Tk_forgetRun 16 = .ok (.return_, 1) := by decide +kernel
theorem d_Ar_fill_0 : decode b_Ar_fill 0 = .ok (.iconst 0, 1) := by decide +kernel
theorem d_Ar_fill_1 : decode b_Ar_fill 1 = .ok (.istore_n 2, 1) := by decide +kernel
theorem d_Ar_fill_2 : decode b_Ar_fill 2 = .ok (.aload_n 0, 1) := by decide +kernel
theorem d_Ar_fill_3 : decode b_Ar_fill 3 = .ok (.arraylength, 1) := by decide +kernel
theorem d_Ar_fill_4 : decode b_Ar_fill 4 = .ok (.istore_n 3, 1) := by decide +kernel
theorem d_Ar_fill_5 : decode b_Ar_fill 5 = .ok (.iload_n 2, 1) := by decide +kernel
theorem d_Ar_fill_6 : decode b_Ar_fill 6 = .ok (.iload_n 3, 1) := by decide +kernel
theorem d_Ar_fill_7 : decode b_Ar_fill 7 = .ok (.if_icmp .ge 13, 3) := by decide +kernel
theorem d_Ar_fill_10 : decode b_Ar_fill 10 = .ok (.aload_n 0, 1) := by decide +kernel
theorem d_Ar_fill_11 : decode b_Ar_fill 11 = .ok (.iload_n 2, 1) := by decide +kernel
theorem d_Ar_fill_12 : decode b_Ar_fill 12 = .ok (.iload_n 1, 1) := by decide +kernel
theorem d_Ar_fill_13 : decode b_Ar_fill 13 = .ok (.iastore, 1) := by decide +kernel
theorem d_Ar_fill_14 : decode b_Ar_fill 14 = .ok (.iinc 2 1, 3) := by decide +kernel
theorem d_Ar_fill_17 : decode b_Ar_fill 17 = .ok (.goto (-12), 3) := by decide +kernel
theorem d_Ar_fill_20 : decode b_Ar_fill 20 = .ok (.return_, 1) := by decide +kernel
theorem d_Ex_entry_0 : decode b_Ex_entry 0 = .ok (.aload_n 0, 1) := by decide +kernel
theorem d_Ex_entry_1 : decode b_Ex_entry 1 = .ok (.invokevirtual 52, 3) := by decide +kernel
theorem d_Ex_entry_4 : decode b_Ex_entry 4 = .ok (.iload_n 1, 1) := by decide +kernel
theorem d_Ex_entry_5 : decode b_Ex_entry 5 = .ok (.aload_n 0, 1) := by decide +kernel
theorem d_Ex_entry_6 : decode b_Ex_entry 6 = .ok (.getfield 10, 3) := by decide +kernel
theorem d_Ex_entry_9 : decode b_Ex_entry 9 = .ok (.getfield 62, 3) := by decide +kernel
theorem d_Ex_entry_12 : decode b_Ex_entry 12 = .ok (.invokestatic 55, 3) := by decide +kernel
theorem d_Ex_entry_15 : decode b_Ex_entry 15 = .ok (.iload_n 2, 1) := by decide +kernel
theorem d_Ex_entry_16 : decode b_Ex_entry 16 = .ok (.bipush 64, 2) := by decide +kernel
theorem d_Ex_entry_18 : decode b_Ex_entry 18 = .ok (.invokestatic 55, 3) := by decide +kernel
theorem d_Ex_entry_21 : decode b_Ex_entry 21 = .ok (.aload_n 0, 1) := by decide +kernel
theorem d_Ex_entry_22 : decode b_Ex_entry 22 = .ok (.getfield 10, 3) := by decide +kernel
theorem d_Ex_entry_25 : decode b_Ex_entry 25 = .ok (.getfield 85, 3) := by decide +kernel
theorem d_Ex_entry_28 : decode b_Ex_entry 28 = .ok (.iload_n 1, 1) := by decide +kernel
theorem d_Ex_entry_29 : decode b_Ex_entry 29 = .ok (.aaload, 1) := by decide +kernel
theorem d_Ex_entry_30 : decode b_Ex_entry 30 = .ok (.iload_n 2, 1) := by decide +kernel
theorem d_Ex_entry_31 : decode b_Ex_entry 31 = .ok (.putfield 89, 3) := by decide +kernel
theorem d_Ex_entry_34 : decode b_Ex_entry 34 = .ok (.return_, 1) := by decide +kernel
theorem d_Ex_clear_0 : decode b_Ex_clear 0 = .ok (.aload_n 0, 1) := by decide +kernel
theorem d_Ex_clear_1 : decode b_Ex_clear 1 = .ok (.invokevirtual 52, 3) := by decide +kernel
theorem d_Ex_clear_4 : decode b_Ex_clear 4 = .ok (.aload_n 0, 1) := by decide +kernel
theorem d_Ex_clear_5 : decode b_Ex_clear 5 = .ok (.getfield 10, 3) := by decide +kernel
theorem d_Ex_clear_8 : decode b_Ex_clear 8 = .ok (.iconst 0, 1) := by decide +kernel
theorem d_Ex_clear_9 : decode b_Ex_clear 9 = .ok (.putfield 62, 3) := by decide +kernel
theorem d_Ex_clear_12 : decode b_Ex_clear 12 = .ok (.aload_n 0, 1) := by decide +kernel
theorem d_Ex_clear_13 : decode b_Ex_clear 13 = .ok (.getfield 19, 3) := by decide +kernel
theorem d_Ex_clear_16 : decode b_Ex_clear 16 = .ok (.iconst 0, 1) := by decide +kernel
theorem d_Ex_clear_17 : decode b_Ex_clear 17 = .ok (.putfield 94, 3) := by decide +kernel
theorem d_Ex_clear_20 : decode b_Ex_clear 20 = .ok (.return_, 1) := by decide +kernel
theorem d_Ex_synthesize_0 : decode b_Ex_synthesize 0 = .ok (.aload_n 0, 1) := by decide +kernel
theorem d_Ex_synthesize_1 : decode b_Ex_synthesize 1 = .ok (.invokevirtual 52, 3) := by decide +kernel
theorem d_Ex_synthesize_4 : decode b_Ex_synthesize 4 = .ok (.aload_n 0, 1) := by decide +kernel
theorem d_Ex_synthesize_5 : decode b_Ex_synthesize 5 = .ok (.getfield 19, 3) := by decide +kernel
theorem d_Ex_synthesize_8 : decode b_Ex_synthesize 8 = .ok (.iconst 0, 1) := by decide +kernel
theorem d_Ex_synthesize_9 : decode b_Ex_synthesize 9 = .ok (.putfield 94, 3) := by decide +kernel
theorem d_Ex_synthesize_12 : decode b_Ex_synthesize 12 = .ok (.aload_n 0, 1) := by decide +kernel
theorem d_Ex_synthesize_13 : decode b_Ex_synthesize 13 = .ok (.getfield 10, 3) := by decide +kernel
theorem d_Ex_synthesize_16 : decode b_Ex_synthesize 16 = .ok (.invokevirtual 95, 3) := by decide +kernel
theorem d_Ex_synthesize_19 : decode b_Ex_synthesize 19 = .ok (.istore_n 1, 1) := by decide +kernel
theorem d_Ex_synthesize_20 : decode b_Ex_synthesize 20 = .ok (.iload_n 1, 1) := by decide +kernel
theorem d_Ex_synthesize_21 : decode b_Ex_synthesize 21 = .ok (.bipush (-3), 2) := by decide +kernel
theorem d_Ex_synthesize_23 : decode b_Ex_synthesize 23 = .ok (.if_icmp .ne 6, 3) := by decide +kernel
theorem d_Ex_synthesize_26 : decode b_Ex_synthesize 26 = .ok (.bipush (-3), 2) := by decide +kernel
theorem d_Ex_synthesize_28 : decode b_Ex_synthesize 28 = .ok (.ireturn, 1) := by decide +kernel
theorem d_Ex_synthesize_29 : decode b_Ex_synthesize 29 = .ok (.aload_n 0, 1) := by decide +kernel
theorem d_Ex_synthesize_30 : decode b_Ex_synthesize 30 = .ok (.getfield 26, 3) := by decide +kernel
theorem d_Ex_synthesize_33 : decode b_Ex_synthesize 33 = .ok (.aload_n 0, 1) := by decide +kernel
theorem d_Ex_synthesize_34 : decode b_Ex_synthesize 34 = .ok (.getfield 10, 3) := by decide +kernel
theorem d_Ex_synthesize_37 : decode b_Ex_synthesize 37 = .ok (.aload_n 0, 1) := by decide +kernel
theorem d_Ex_synthesize_38 : decode b_Ex_synthesize 38 = .ok (.getfield 37, 3) := by decide +kernel
theorem d_Ex_synthesize_41 : decode b_Ex_synthesize 41 = .ok (.iload_n 1, 1) := by decide +kernel
theorem d_Ex_synthesize_42 : decode b_Ex_synthesize 42 = .ok (.invokevirtual 99, 3) := by decide +kernel
theorem d_Ex_synthesize_45 : decode b_Ex_synthesize 45 = .ok (.ifCond .ne 6, 3) := by decide +kernel
theorem d_Ex_synthesize_48 : decode b_Ex_synthesize 48 = .ok (.bipush (-2), 2) := by decide +kernel
theorem d_Ex_synthesize_50 : decode b_Ex_synthesize 50 = .ok (.ireturn, 1) := by decide +kernel
theorem d_Ex_synthesize_51 : decode b_Ex_synthesize 51 = .ok (.aload_n 0, 1) := by decide +kernel
theorem d_Ex_synthesize_52 : decode b_Ex_synthesize 52 = .ok (.getfield 19, 3) := by decide +kernel
theorem d_Ex_synthesize_55 : decode b_Ex_synthesize 55 = .ok (.aload_n 0, 1) := by decide +kernel
theorem d_Ex_synthesize_56 : decode b_Ex_synthesize 56 = .ok (.getfield 37, 3) := by decide +kernel
theorem d_Ex_synthesize_59 : decode b_Ex_synthesize 59 = .ok (.iload_n 1, 1) := by decide +kernel
theorem d_Ex_synthesize_60 : decode b_Ex_synthesize 60 = .ok (.invokevirtual 103, 3) := by decide +kernel
theorem d_Ex_synthesize_63 : decode b_Ex_synthesize 63 = .ok (.ifCond .eq 13, 3) := by decide +kernel
theorem d_Ex_synthesize_66 : decode b_Ex_synthesize 66 = .ok (.aload_n 0, 1) := by decide +kernel
theorem d_Ex_synthesize_67 : decode b_Ex_synthesize 67 = .ok (.getfield 19, 3) := by decide +kernel
theorem d_Ex_synthesize_70 : decode b_Ex_synthesize 70 = .ok (.getfield 94, 3) := by decide +kernel
theorem d_Ex_synthesize_73 : decode b_Ex_synthesize 73 = .ok (.goto 5, 3) := by decide +kernel
theorem d_Ex_synthesize_76 : decode b_Ex_synthesize 76 = .ok (.bipush (-3), 2) := by decide +kernel
theorem d_Ex_synthesize_78 : decode b_Ex_synthesize 78 = .ok (.ireturn, 1) := by decide +kernel
theorem d_Pl_plan_0 : decode b_Pl_plan 0 = .ok (.aload_n 1, 1) := by decide +kernel
theorem d_Pl_plan_1 : decode b_Pl_plan 1 = .ok (.iload_n 3, 1) := by decide +kernel
theorem d_Pl_plan_2 : decode b_Pl_plan 2 = .ok (.invokevirtual 18, 3) := by decide +kernel
theorem d_Pl_plan_5 : decode b_Pl_plan 5 = .ok (.iload_n 3, 1) := by decide +kernel
theorem d_Pl_plan_6 : decode b_Pl_plan 6 = .ok (.if_icmp .le 5, 3) := by decide +kernel
theorem d_Pl_plan_9 : decode b_Pl_plan 9 = .ok (.iconst 0, 1) := by decide +kernel
theorem d_Pl_plan_10 : decode b_Pl_plan 10 = .ok (.ireturn, 1) := by decide +kernel
theorem d_Pl_plan_11 : decode b_Pl_plan 11 = .ok (.aload_n 0, 1) := by decide +kernel
theorem d_Pl_plan_12 : decode b_Pl_plan 12 = .ok (.getfield 9, 3) := by decide +kernel
theorem d_Pl_plan_15 : decode b_Pl_plan 15 = .ok (.iconst 0, 1) := by decide +kernel
theorem d_Pl_plan_16 : decode b_Pl_plan 16 = .ok (.invokestatic 24, 3) := by decide +kernel
theorem d_Pl_plan_19 : decode b_Pl_plan 19 = .ok (.aload_n 1, 1) := by decide +kernel
theorem d_Pl_plan_20 : decode b_Pl_plan 20 = .ok (.invokevirtual 30, 3) := by decide +kernel
theorem d_Pl_plan_23 : decode b_Pl_plan 23 = .ok (.iload_n 3, 1) := by decide +kernel
theorem d_Pl_plan_24 : decode b_Pl_plan 24 = .ok (.iadd, 1) := by decide +kernel
theorem d_Pl_plan_25 : decode b_Pl_plan 25 = .ok (.istore 4, 2) := by decide +kernel
theorem d_Pl_plan_27 : decode b_Pl_plan 27 = .ok (.iconst 0, 1) := by decide +kernel
theorem d_Pl_plan_28 : decode b_Pl_plan 28 = .ok (.istore 5, 2) := by decide +kernel
theorem d_Pl_plan_30 : decode b_Pl_plan 30 = .ok (.iload 5, 2) := by decide +kernel
theorem d_Pl_plan_32 : decode b_Pl_plan 32 = .ok (.iload 4, 2) := by decide +kernel
theorem d_Pl_plan_34 : decode b_Pl_plan 34 = .ok (.iload_n 3, 1) := by decide +kernel
theorem d_Pl_plan_35 : decode b_Pl_plan 35 = .ok (.iadd, 1) := by decide +kernel
theorem d_Pl_plan_36 : decode b_Pl_plan 36 = .ok (.if_icmp .ge 75, 3) := by decide +kernel
theorem d_Pl_plan_39 : decode b_Pl_plan 39 = .ok (.aload_n 0, 1) := by decide +kernel
theorem d_Pl_plan_40 : decode b_Pl_plan 40 = .ok (.aload_n 1, 1) := by decide +kernel
theorem d_Pl_plan_41 : decode b_Pl_plan 41 = .ok (.iload 5, 2) := by decide +kernel
theorem d_Pl_plan_43 : decode b_Pl_plan 43 = .ok (.invokevirtual 34, 3) := by decide +kernel
theorem d_Pl_plan_46 : decode b_Pl_plan 46 = .ok (.aload_n 0, 1) := by decide +kernel
theorem d_Pl_plan_47 : decode b_Pl_plan 47 = .ok (.aload_n 1, 1) := by decide +kernel
theorem d_Pl_plan_48 : decode b_Pl_plan 48 = .ok (.getfield 38, 3) := by decide +kernel
theorem d_Pl_plan_51 : decode b_Pl_plan 51 = .ok (.invokevirtual 42, 3) := by decide +kernel
theorem d_Pl_plan_54 : decode b_Pl_plan 54 = .ok (.istore 6, 2) := by decide +kernel
theorem d_Pl_plan_56 : decode b_Pl_plan 56 = .ok (.iload 6, 2) := by decide +kernel
theorem d_Pl_plan_58 : decode b_Pl_plan 58 = .ok (.iconst (-1), 1) := by decide +kernel
theorem d_Pl_plan_59 : decode b_Pl_plan 59 = .ok (.if_icmp .eq 14, 3) := by decide +kernel
theorem d_Pl_plan_62 : decode b_Pl_plan 62 = .ok (.aload_n 0, 1) := by decide +kernel
theorem d_Pl_plan_63 : decode b_Pl_plan 63 = .ok (.getfield 9, 3) := by decide +kernel
theorem d_Pl_plan_66 : decode b_Pl_plan 66 = .ok (.iload 6, 2) := by decide +kernel
theorem d_Pl_plan_68 : decode b_Pl_plan 68 = .ok (.dup2, 1) := by decide +kernel
theorem d_Pl_plan_69 : decode b_Pl_plan 69 = .ok (.iaload, 1) := by decide +kernel
theorem d_Pl_plan_70 : decode b_Pl_plan 70 = .ok (.iconst 1, 1) := by decide +kernel
theorem d_Pl_plan_71 : decode b_Pl_plan 71 = .ok (.isub, 1) := by decide +kernel
theorem d_Pl_plan_72 : decode b_Pl_plan 72 = .ok (.iastore, 1) := by decide +kernel
theorem d_Pl_plan_73 : decode b_Pl_plan 73 = .ok (.iload 5, 2) := by decide +kernel
theorem d_Pl_plan_75 : decode b_Pl_plan 75 = .ok (.iload 4, 2) := by decide +kernel
theorem d_Pl_plan_77 : decode b_Pl_plan 77 = .ok (.if_icmp .lt 11, 3) := by decide +kernel
theorem d_Pl_plan_80 : decode b_Pl_plan 80 = .ok (.aload_n 2, 1) := by decide +kernel
theorem d_Pl_plan_81 : decode b_Pl_plan 81 = .ok (.iload 5, 2) := by decide +kernel
theorem d_Pl_plan_83 : decode b_Pl_plan 83 = .ok (.iload_n 3, 1) := by decide +kernel
theorem d_Pl_plan_84 : decode b_Pl_plan 84 = .ok (.irem, 1) := by decide +kernel
theorem d_Pl_plan_85 : decode b_Pl_plan 85 = .ok (.iload 6, 2) := by decide +kernel
theorem d_Pl_plan_87 : decode b_Pl_plan 87 = .ok (.iastore, 1) := by decide +kernel
theorem d_Pl_plan_88 : decode b_Pl_plan 88 = .ok (.aload_n 0, 1) := by decide +kernel
theorem d_Pl_plan_89 : decode b_Pl_plan 89 = .ok (.aload_n 1, 1) := by decide +kernel
theorem d_Pl_plan_90 : decode b_Pl_plan 90 = .ok (.getfield 38, 3) := by decide +kernel
theorem d_Pl_plan_93 : decode b_Pl_plan 93 = .ok (.iload 5, 2) := by decide +kernel
theorem d_Pl_plan_95 : decode b_Pl_plan 95 = .ok (.iconst 1, 1) := by decide +kernel
theorem d_Pl_plan_96 : decode b_Pl_plan 96 = .ok (.iadd, 1) := by decide +kernel
theorem d_Pl_plan_97 : decode b_Pl_plan 97 = .ok (.invokevirtual 45, 3) := by decide +kernel
theorem d_Pl_plan_100 : decode b_Pl_plan 100 = .ok (.ifCond .eq 5, 3) := by decide +kernel
theorem d_Pl_plan_103 : decode b_Pl_plan 103 = .ok (.iconst 0, 1) := by decide +kernel
theorem d_Pl_plan_104 : decode b_Pl_plan 104 = .ok (.ireturn, 1) := by decide +kernel
theorem d_Pl_plan_105 : decode b_Pl_plan 105 = .ok (.iinc 5 1, 3) := by decide +kernel
theorem d_Pl_plan_108 : decode b_Pl_plan 108 = .ok (.goto (-78), 3) := by decide +kernel
theorem d_Pl_plan_111 : decode b_Pl_plan 111 = .ok (.iconst 1, 1) := by decide +kernel
theorem d_Pl_plan_112 : decode b_Pl_plan 112 = .ok (.ireturn, 1) := by decide +kernel
theorem d_Tl_workInRound_0 : decode b_Tl_workInRound 0 = .ok (.iconst 0, 1) := by decide +kernel
theorem d_Tl_workInRound_1 : decode b_Tl_workInRound 1 = .ok (.istore_n 2, 1) := by decide +kernel
theorem d_Tl_workInRound_2 : decode b_Tl_workInRound 2 = .ok (.iconst 0, 1) := by decide +kernel
theorem d_Tl_workInRound_3 : decode b_Tl_workInRound 3 = .ok (.istore_n 3, 1) := by decide +kernel
theorem d_Tl_workInRound_4 : decode b_Tl_workInRound 4 = .ok (.iload_n 3, 1) := by decide +kernel
theorem d_Tl_workInRound_5 : decode b_Tl_workInRound 5 = .ok (.aload_n 0, 1) := by decide +kernel
theorem d_Tl_workInRound_6 : decode b_Tl_workInRound 6 = .ok (.getfield 18, 3) := by decide +kernel
theorem d_Tl_workInRound_9 : decode b_Tl_workInRound 9 = .ok (.if_icmp .ge 33, 3) := by decide +kernel
theorem d_Tl_workInRound_12 : decode b_Tl_workInRound 12 = .ok (.iload_n 2, 1) := by decide +kernel
theorem d_Tl_workInRound_13 : decode b_Tl_workInRound 13 = .ok (.aload_n 0, 1) := by decide +kernel
theorem d_Tl_workInRound_14 : decode b_Tl_workInRound 14 = .ok (.getfield 11, 3) := by decide +kernel
theorem d_Tl_workInRound_17 : decode b_Tl_workInRound 17 = .ok (.iload_n 3, 1) := by decide +kernel
theorem d_Tl_workInRound_18 : decode b_Tl_workInRound 18 = .ok (.aaload, 1) := by decide +kernel
theorem d_Tl_workInRound_19 : decode b_Tl_workInRound 19 = .ok (.getfield 25, 3) := by decide +kernel
theorem d_Tl_workInRound_22 : decode b_Tl_workInRound 22 = .ok (.iload_n 1, 1) := by decide +kernel
theorem d_Tl_workInRound_23 : decode b_Tl_workInRound 23 = .ok (.aload_n 0, 1) := by decide +kernel
theorem d_Tl_workInRound_24 : decode b_Tl_workInRound 24 = .ok (.getfield 11, 3) := by decide +kernel
theorem d_Tl_workInRound_27 : decode b_Tl_workInRound 27 = .ok (.iload_n 3, 1) := by decide +kernel
theorem d_Tl_workInRound_28 : decode b_Tl_workInRound 28 = .ok (.aaload, 1) := by decide +kernel
theorem d_Tl_workInRound_29 : decode b_Tl_workInRound 29 = .ok (.getfield 22, 3) := by decide +kernel
theorem d_Tl_workInRound_32 : decode b_Tl_workInRound 32 = .ok (.idiv, 1) := by decide +kernel
theorem d_Tl_workInRound_33 : decode b_Tl_workInRound 33 = .ok (.imul, 1) := by decide +kernel
theorem d_Tl_workInRound_34 : decode b_Tl_workInRound 34 = .ok (.iadd, 1) := by decide +kernel
theorem d_Tl_workInRound_35 : decode b_Tl_workInRound 35 = .ok (.istore_n 2, 1) := by decide +kernel
theorem d_Tl_workInRound_36 : decode b_Tl_workInRound 36 = .ok (.iinc 3 1, 3) := by decide +kernel
theorem d_Tl_workInRound_39 : decode b_Tl_workInRound 39 = .ok (.goto (-35), 3) := by decide +kernel
theorem d_Tl_workInRound_42 : decode b_Tl_workInRound 42 = .ok (.iload_n 2, 1) := by decide +kernel
theorem d_Tl_workInRound_43 : decode b_Tl_workInRound 43 = .ok (.ireturn, 1) := by decide +kernel
theorem d_Tl_greatestOffset_0 : decode b_Tl_greatestOffset 0 = .ok (.iconst 0, 1) := by decide +kernel
theorem d_Tl_greatestOffset_1 : decode b_Tl_greatestOffset 1 = .ok (.istore_n 1, 1) := by decide +kernel
theorem d_Tl_greatestOffset_2 : decode b_Tl_greatestOffset 2 = .ok (.iconst 0, 1) := by decide +kernel
theorem d_Tl_greatestOffset_3 : decode b_Tl_greatestOffset 3 = .ok (.istore_n 2, 1) := by decide +kernel
theorem d_Tl_greatestOffset_4 : decode b_Tl_greatestOffset 4 = .ok (.iload_n 2, 1) := by decide +kernel
theorem d_Tl_greatestOffset_5 : decode b_Tl_greatestOffset 5 = .ok (.aload_n 0, 1) := by decide +kernel
theorem d_Tl_greatestOffset_6 : decode b_Tl_greatestOffset 6 = .ok (.getfield 18, 3) := by decide +kernel
theorem d_Tl_greatestOffset_9 : decode b_Tl_greatestOffset 9 = .ok (.if_icmp .ge 23, 3) := by decide +kernel
theorem d_Tl_greatestOffset_12 : decode b_Tl_greatestOffset 12 = .ok (.iload_n 1, 1) := by decide +kernel
theorem d_Tl_greatestOffset_13 : decode b_Tl_greatestOffset 13 = .ok (.aload_n 0, 1) := by decide +kernel
theorem d_Tl_greatestOffset_14 : decode b_Tl_greatestOffset 14 = .ok (.getfield 11, 3) := by decide +kernel
theorem d_Tl_greatestOffset_17 : decode b_Tl_greatestOffset 17 = .ok (.iload_n 2, 1) := by decide +kernel
theorem d_Tl_greatestOffset_18 : decode b_Tl_greatestOffset 18 = .ok (.aaload, 1) := by decide +kernel
theorem d_Tl_greatestOffset_19 : decode b_Tl_greatestOffset 19 = .ok (.getfield 31, 3) := by decide +kernel
theorem d_Tl_greatestOffset_22 : decode b_Tl_greatestOffset 22 = .ok (.invokestatic 44, 3) := by decide +kernel
theorem d_Tl_greatestOffset_25 : decode b_Tl_greatestOffset 25 = .ok (.istore_n 1, 1) := by decide +kernel
theorem d_Tl_greatestOffset_26 : decode b_Tl_greatestOffset 26 = .ok (.iinc 2 1, 3) := by decide +kernel
theorem d_Tl_greatestOffset_29 : decode b_Tl_greatestOffset 29 = .ok (.goto (-25), 3) := by decide +kernel
theorem d_Tl_greatestOffset_32 : decode b_Tl_greatestOffset 32 = .ok (.iload_n 1, 1) := by decide +kernel
theorem d_Tl_greatestOffset_33 : decode b_Tl_greatestOffset 33 = .ok (.ireturn, 1) := by decide +kernel
theorem d_Ma_max_0 : decode b_Ma_max 0 = .ok (.iload_n 0, 1) := by decide +kernel
theorem d_Ma_max_1 : decode b_Ma_max 1 = .ok (.iload_n 1, 1) := by decide +kernel
theorem d_Ma_max_2 : decode b_Ma_max 2 = .ok (.if_icmp .lt 7, 3) := by decide +kernel
theorem d_Ma_max_5 : decode b_Ma_max 5 = .ok (.iload_n 0, 1) := by decide +kernel
theorem d_Ma_max_6 : decode b_Ma_max 6 = .ok (.goto 4, 3) := by decide +kernel
theorem d_Ma_max_9 : decode b_Ma_max 9 = .ok (.iload_n 1, 1) := by decide +kernel
theorem d_Ma_max_10 : decode b_Ma_max 10 = .ok (.ireturn, 1) := by decide +kernel
theorem d_Pl_release_0 : decode b_Pl_release 0 = .ok (.iconst 0, 1) := by decide +kernel
theorem d_Pl_release_1 : decode b_Pl_release 1 = .ok (.istore_n 3, 1) := by decide +kernel
theorem d_Pl_release_2 : decode b_Pl_release 2 = .ok (.iload_n 3, 1) := by decide +kernel
theorem d_Pl_release_3 : decode b_Pl_release 3 = .ok (.aload_n 1, 1) := by decide +kernel
theorem d_Pl_release_4 : decode b_Pl_release 4 = .ok (.getfield 38, 3) := by decide +kernel
theorem d_Pl_release_7 : decode b_Pl_release 7 = .ok (.if_icmp .ge 50, 3) := by decide +kernel
theorem d_Pl_release_10 : decode b_Pl_release 10 = .ok (.aload_n 1, 1) := by decide +kernel
theorem d_Pl_release_11 : decode b_Pl_release 11 = .ok (.getfield 49, 3) := by decide +kernel
theorem d_Pl_release_14 : decode b_Pl_release 14 = .ok (.iload_n 3, 1) := by decide +kernel
theorem d_Pl_release_15 : decode b_Pl_release 15 = .ok (.aaload, 1) := by decide +kernel
theorem d_Pl_release_16 : decode b_Pl_release 16 = .ok (.astore 4, 2) := by decide +kernel
theorem d_Pl_release_18 : decode b_Pl_release 18 = .ok (.aload 4, 2) := by decide +kernel
theorem d_Pl_release_20 : decode b_Pl_release 20 = .ok (.iload_n 2, 1) := by decide +kernel
theorem d_Pl_release_21 : decode b_Pl_release 21 = .ok (.invokevirtual 53, 3) := by decide +kernel
theorem d_Pl_release_24 : decode b_Pl_release 24 = .ok (.ifCond .eq 27, 3) := by decide +kernel
theorem d_Pl_release_27 : decode b_Pl_release 27 = .ok (.aload_n 0, 1) := by decide +kernel
theorem d_Pl_release_28 : decode b_Pl_release 28 = .ok (.getfield 9, 3) := by decide +kernel
theorem d_Pl_release_31 : decode b_Pl_release 31 = .ok (.iload_n 3, 1) := by decide +kernel
theorem d_Pl_release_32 : decode b_Pl_release 32 = .ok (.aload 4, 2) := by decide +kernel
theorem d_Pl_release_34 : decode b_Pl_release 34 = .ok (.getfield 59, 3) := by decide +kernel
theorem d_Pl_release_37 : decode b_Pl_release 37 = .ok (.iastore, 1) := by decide +kernel
theorem d_Pl_release_38 : decode b_Pl_release 38 = .ok (.aload_n 0, 1) := by decide +kernel
theorem d_Pl_release_39 : decode b_Pl_release 39 = .ok (.getfield 15, 3) := by decide +kernel
theorem d_Pl_release_42 : decode b_Pl_release 42 = .ok (.iload_n 3, 1) := by decide +kernel
theorem d_Pl_release_43 : decode b_Pl_release 43 = .ok (.iload_n 2, 1) := by decide +kernel
theorem d_Pl_release_44 : decode b_Pl_release 44 = .ok (.aload 4, 2) := by decide +kernel
theorem d_Pl_release_46 : decode b_Pl_release 46 = .ok (.getfield 62, 3) := by decide +kernel
theorem d_Pl_release_49 : decode b_Pl_release 49 = .ok (.iadd, 1) := by decide +kernel
theorem d_Pl_release_50 : decode b_Pl_release 50 = .ok (.iastore, 1) := by decide +kernel
theorem d_Pl_release_51 : decode b_Pl_release 51 = .ok (.iinc 3 1, 3) := by decide +kernel
theorem d_Pl_release_54 : decode b_Pl_release 54 = .ok (.goto (-52), 3) := by decide +kernel
theorem d_Pl_release_57 : decode b_Pl_release 57 = .ok (.return_, 1) := by decide +kernel
theorem d_Tk_releasesAt_0 : decode b_Tk_releasesAt 0 = .ok (.iload_n 1, 1) := by decide +kernel
theorem d_Tk_releasesAt_1 : decode b_Tk_releasesAt 1 = .ok (.aload_n 0, 1) := by decide +kernel
theorem d_Tk_releasesAt_2 : decode b_Tk_releasesAt 2 = .ok (.getfield 26, 3) := by decide +kernel
theorem d_Tk_releasesAt_5 : decode b_Tk_releasesAt 5 = .ok (.if_icmp .lt 21, 3) := by decide +kernel
theorem d_Tk_releasesAt_8 : decode b_Tk_releasesAt 8 = .ok (.iload_n 1, 1) := by decide +kernel
theorem d_Tk_releasesAt_9 : decode b_Tk_releasesAt 9 = .ok (.aload_n 0, 1) := by decide +kernel
theorem d_Tk_releasesAt_10 : decode b_Tk_releasesAt 10 = .ok (.getfield 26, 3) := by decide +kernel
theorem d_Tk_releasesAt_13 : decode b_Tk_releasesAt 13 = .ok (.isub, 1) := by decide +kernel
theorem d_Tk_releasesAt_14 : decode b_Tk_releasesAt 14 = .ok (.aload_n 0, 1) := by decide +kernel
theorem d_Tk_releasesAt_15 : decode b_Tk_releasesAt 15 = .ok (.getfield 9, 3) := by decide +kernel
theorem d_Tk_releasesAt_18 : decode b_Tk_releasesAt 18 = .ok (.irem, 1) := by decide +kernel
theorem d_Tk_releasesAt_19 : decode b_Tk_releasesAt 19 = .ok (.ifCond .ne 7, 3) := by decide +kernel
theorem d_Tk_releasesAt_22 : decode b_Tk_releasesAt 22 = .ok (.iconst 1, 1) := by decide +kernel
theorem d_Tk_releasesAt_23 : decode b_Tk_releasesAt 23 = .ok (.goto 4, 3) := by decide +kernel
theorem d_Tk_releasesAt_26 : decode b_Tk_releasesAt 26 = .ok (.iconst 0, 1) := by decide +kernel
theorem d_Tk_releasesAt_27 : decode b_Tk_releasesAt 27 = .ok (.ireturn, 1) := by decide +kernel
theorem d_Pl_mostUrgent_0 : decode b_Pl_mostUrgent 0 = .ok (.iconst (-1), 1) := by decide +kernel
theorem d_Pl_mostUrgent_1 : decode b_Pl_mostUrgent 1 = .ok (.istore_n 2, 1) := by decide +kernel
theorem d_Pl_mostUrgent_2 : decode b_Pl_mostUrgent 2 = .ok (.iconst 0, 1) := by decide +kernel
theorem d_Pl_mostUrgent_3 : decode b_Pl_mostUrgent 3 = .ok (.istore_n 3, 1) := by decide +kernel
theorem d_Pl_mostUrgent_4 : decode b_Pl_mostUrgent 4 = .ok (.iload_n 3, 1) := by decide +kernel
theorem d_Pl_mostUrgent_5 : decode b_Pl_mostUrgent 5 = .ok (.iload_n 1, 1) := by decide +kernel
theorem d_Pl_mostUrgent_6 : decode b_Pl_mostUrgent 6 = .ok (.if_icmp .ge 40, 3) := by decide +kernel
theorem d_Pl_mostUrgent_9 : decode b_Pl_mostUrgent 9 = .ok (.aload_n 0, 1) := by decide +kernel
theorem d_Pl_mostUrgent_10 : decode b_Pl_mostUrgent 10 = .ok (.getfield 9, 3) := by decide +kernel
theorem d_Pl_mostUrgent_13 : decode b_Pl_mostUrgent 13 = .ok (.iload_n 3, 1) := by decide +kernel
theorem d_Pl_mostUrgent_14 : decode b_Pl_mostUrgent 14 = .ok (.iaload, 1) := by decide +kernel
theorem d_Pl_mostUrgent_15 : decode b_Pl_mostUrgent 15 = .ok (.ifCond .le 25, 3) := by decide +kernel
theorem d_Pl_mostUrgent_18 : decode b_Pl_mostUrgent 18 = .ok (.iload_n 2, 1) := by decide +kernel
theorem d_Pl_mostUrgent_19 : decode b_Pl_mostUrgent 19 = .ok (.iconst (-1), 1) := by decide +kernel
theorem d_Pl_mostUrgent_20 : decode b_Pl_mostUrgent 20 = .ok (.if_icmp .eq 18, 3) := by decide +kernel
theorem d_Pl_mostUrgent_23 : decode b_Pl_mostUrgent 23 = .ok (.aload_n 0, 1) := by decide +kernel
theorem d_Pl_mostUrgent_24 : decode b_Pl_mostUrgent 24 = .ok (.getfield 15, 3) := by decide +kernel
theorem d_Pl_mostUrgent_27 : decode b_Pl_mostUrgent 27 = .ok (.iload_n 3, 1) := by decide +kernel
theorem d_Pl_mostUrgent_28 : decode b_Pl_mostUrgent 28 = .ok (.iaload, 1) := by decide +kernel
theorem d_Pl_mostUrgent_29 : decode b_Pl_mostUrgent 29 = .ok (.aload_n 0, 1) := by decide +kernel
theorem d_Pl_mostUrgent_30 : decode b_Pl_mostUrgent 30 = .ok (.getfield 15, 3) := by decide +kernel
theorem d_Pl_mostUrgent_33 : decode b_Pl_mostUrgent 33 = .ok (.iload_n 2, 1) := by decide +kernel
theorem d_Pl_mostUrgent_34 : decode b_Pl_mostUrgent 34 = .ok (.iaload, 1) := by decide +kernel
theorem d_Pl_mostUrgent_35 : decode b_Pl_mostUrgent 35 = .ok (.if_icmp .ge 5, 3) := by decide +kernel
theorem d_Pl_mostUrgent_38 : decode b_Pl_mostUrgent 38 = .ok (.iload_n 3, 1) := by decide +kernel
theorem d_Pl_mostUrgent_39 : decode b_Pl_mostUrgent 39 = .ok (.istore_n 2, 1) := by decide +kernel
theorem d_Pl_mostUrgent_40 : decode b_Pl_mostUrgent 40 = .ok (.iinc 3 1, 3) := by decide +kernel
theorem d_Pl_mostUrgent_43 : decode b_Pl_mostUrgent 43 = .ok (.goto (-39), 3) := by decide +kernel
theorem d_Pl_mostUrgent_46 : decode b_Pl_mostUrgent 46 = .ok (.iload_n 2, 1) := by decide +kernel
theorem d_Pl_mostUrgent_47 : decode b_Pl_mostUrgent 47 = .ok (.ireturn, 1) := by decide +kernel
theorem d_Pl_missesWindow_0 : decode b_Pl_missesWindow 0 = .ok (.iconst 0, 1) := by decide +kernel
theorem d_Pl_missesWindow_1 : decode b_Pl_missesWindow 1 = .ok (.istore_n 3, 1) := by decide +kernel
theorem d_Pl_missesWindow_2 : decode b_Pl_missesWindow 2 = .ok (.iload_n 3, 1) := by decide +kernel
theorem d_Pl_missesWindow_3 : decode b_Pl_missesWindow 3 = .ok (.iload_n 1, 1) := by decide +kernel
theorem d_Pl_missesWindow_4 : decode b_Pl_missesWindow 4 = .ok (.if_icmp .ge 30, 3) := by decide +kernel
theorem d_Pl_missesWindow_7 : decode b_Pl_missesWindow 7 = .ok (.aload_n 0, 1) := by decide +kernel
theorem d_Pl_missesWindow_8 : decode b_Pl_missesWindow 8 = .ok (.getfield 9, 3) := by decide +kernel
theorem d_Pl_missesWindow_11 : decode b_Pl_missesWindow 11 = .ok (.iload_n 3, 1) := by decide +kernel
theorem d_Pl_missesWindow_12 : decode b_Pl_missesWindow 12 = .ok (.iaload, 1) := by decide +kernel
theorem d_Pl_missesWindow_13 : decode b_Pl_missesWindow 13 = .ok (.ifCond .le 15, 3) := by decide +kernel
theorem d_Pl_missesWindow_16 : decode b_Pl_missesWindow 16 = .ok (.aload_n 0, 1) := by decide +kernel
theorem d_Pl_missesWindow_17 : decode b_Pl_missesWindow 17 = .ok (.getfield 15, 3) := by decide +kernel
theorem d_Pl_missesWindow_20 : decode b_Pl_missesWindow 20 = .ok (.iload_n 3, 1) := by decide +kernel
theorem d_Pl_missesWindow_21 : decode b_Pl_missesWindow 21 = .ok (.iaload, 1) := by decide +kernel
theorem d_Pl_missesWindow_22 : decode b_Pl_missesWindow 22 = .ok (.iload_n 2, 1) := by decide +kernel
theorem d_Pl_missesWindow_23 : decode b_Pl_missesWindow 23 = .ok (.if_icmp .gt 5, 3) := by decide +kernel
theorem d_Pl_missesWindow_26 : decode b_Pl_missesWindow 26 = .ok (.iconst 1, 1) := by decide +kernel
theorem d_Pl_missesWindow_27 : decode b_Pl_missesWindow 27 = .ok (.ireturn, 1) := by decide +kernel
theorem d_Pl_missesWindow_28 : decode b_Pl_missesWindow 28 = .ok (.iinc 3 1, 3) := by decide +kernel
theorem d_Pl_missesWindow_31 : decode b_Pl_missesWindow 31 = .ok (.goto (-29), 3) := by decide +kernel
theorem d_Pl_missesWindow_34 : decode b_Pl_missesWindow 34 = .ok (.iconst 0, 1) := by decide +kernel
theorem d_Pl_missesWindow_35 : decode b_Pl_missesWindow 35 = .ok (.ireturn, 1) := by decide +kernel
theorem d_Tb_become_0 : decode b_Tb_become 0 = .ok (.aload_n 0, 1) := by decide +kernel
theorem d_Tb_become_1 : decode b_Tb_become 1 = .ok (.iconst 0, 1) := by decide +kernel
theorem d_Tb_become_2 : decode b_Tb_become 2 = .ok (.putfield 21, 3) := by decide +kernel
theorem d_Tb_become_5 : decode b_Tb_become 5 = .ok (.iconst 0, 1) := by decide +kernel
theorem d_Tb_become_6 : decode b_Tb_become 6 = .ok (.istore_n 3, 1) := by decide +kernel
theorem d_Tb_become_7 : decode b_Tb_become 7 = .ok (.iload_n 3, 1) := by decide +kernel
theorem d_Tb_become_8 : decode b_Tb_become 8 = .ok (.iload_n 2, 1) := by decide +kernel
theorem d_Tb_become_9 : decode b_Tb_become 9 = .ok (.if_icmp .ge 91, 3) := by decide +kernel
theorem d_Tb_become_12 : decode b_Tb_become 12 = .ok (.aload_n 1, 1) := by decide +kernel
theorem d_Tb_become_13 : decode b_Tb_become 13 = .ok (.iload_n 3, 1) := by decide +kernel
theorem d_Tb_become_14 : decode b_Tb_become 14 = .ok (.iaload, 1) := by decide +kernel
theorem d_Tb_become_15 : decode b_Tb_become 15 = .ok (.iconst (-1), 1) := by decide +kernel
theorem d_Tb_become_16 : decode b_Tb_become 16 = .ok (.if_icmp .ne 6, 3) := by decide +kernel
theorem d_Tb_become_19 : decode b_Tb_become 19 = .ok (.goto 75, 3) := by decide +kernel
theorem d_Tb_become_22 : decode b_Tb_become 22 = .ok (.aload_n 0, 1) := by decide +kernel
theorem d_Tb_become_23 : decode b_Tb_become 23 = .ok (.getfield 21, 3) := by decide +kernel
theorem d_Tb_become_26 : decode b_Tb_become 26 = .ok (.ifCond .le 36, 3) := by decide +kernel
theorem d_Tb_become_29 : decode b_Tb_become 29 = .ok (.iload_n 3, 1) := by decide +kernel
theorem d_Tb_become_30 : decode b_Tb_become 30 = .ok (.ifCond .le 32, 3) := by decide +kernel
theorem d_Tb_become_33 : decode b_Tb_become 33 = .ok (.aload_n 1, 1) := by decide +kernel
theorem d_Tb_become_34 : decode b_Tb_become 34 = .ok (.iload_n 3, 1) := by decide +kernel
theorem d_Tb_become_35 : decode b_Tb_become 35 = .ok (.iaload, 1) := by decide +kernel
theorem d_Tb_become_36 : decode b_Tb_become 36 = .ok (.aload_n 1, 1) := by decide +kernel
theorem d_Tb_become_37 : decode b_Tb_become 37 = .ok (.iload_n 3, 1) := by decide +kernel
theorem d_Tb_become_38 : decode b_Tb_become 38 = .ok (.iconst 1, 1) := by decide +kernel
theorem d_Tb_become_39 : decode b_Tb_become 39 = .ok (.isub, 1) := by decide +kernel
theorem d_Tb_become_40 : decode b_Tb_become 40 = .ok (.iaload, 1) := by decide +kernel
theorem d_Tb_become_41 : decode b_Tb_become 41 = .ok (.if_icmp .ne 21, 3) := by decide +kernel
theorem d_Tb_become_44 : decode b_Tb_become 44 = .ok (.aload_n 0, 1) := by decide +kernel
theorem d_Tb_become_45 : decode b_Tb_become 45 = .ok (.getfield 15, 3) := by decide +kernel
theorem d_Tb_become_48 : decode b_Tb_become 48 = .ok (.aload_n 0, 1) := by decide +kernel
theorem d_Tb_become_49 : decode b_Tb_become 49 = .ok (.getfield 21, 3) := by decide +kernel
theorem d_Tb_become_52 : decode b_Tb_become 52 = .ok (.iconst 1, 1) := by decide +kernel
theorem d_Tb_become_53 : decode b_Tb_become 53 = .ok (.isub, 1) := by decide +kernel
theorem d_Tb_become_54 : decode b_Tb_become 54 = .ok (.dup2, 1) := by decide +kernel
theorem d_Tb_become_55 : decode b_Tb_become 55 = .ok (.iaload, 1) := by decide +kernel
theorem d_Tb_become_56 : decode b_Tb_become 56 = .ok (.iconst 1, 1) := by decide +kernel
theorem d_Tb_become_57 : decode b_Tb_become 57 = .ok (.iadd, 1) := by decide +kernel
theorem d_Tb_become_58 : decode b_Tb_become 58 = .ok (.iastore, 1) := by decide +kernel
theorem d_Tb_become_59 : decode b_Tb_become 59 = .ok (.goto 35, 3) := by decide +kernel
theorem d_Tb_become_62 : decode b_Tb_become 62 = .ok (.aload_n 0, 1) := by decide +kernel
theorem d_Tb_become_63 : decode b_Tb_become 63 = .ok (.getfield 21, 3) := by decide +kernel
theorem d_Tb_become_66 : decode b_Tb_become 66 = .ok (.bipush 60, 2) := by decide +kernel
theorem d_Tb_become_68 : decode b_Tb_become 68 = .ok (.if_icmp .ge 19, 3) := by decide +kernel
theorem d_Tb_become_71 : decode b_Tb_become 71 = .ok (.aload_n 0, 1) := by decide +kernel
theorem d_Tb_become_72 : decode b_Tb_become 72 = .ok (.aload_n 0, 1) := by decide +kernel
theorem d_Tb_become_73 : decode b_Tb_become 73 = .ok (.getfield 21, 3) := by decide +kernel
theorem d_Tb_become_76 : decode b_Tb_become 76 = .ok (.iload_n 3, 1) := by decide +kernel
theorem d_Tb_become_77 : decode b_Tb_become 77 = .ok (.iconst 1, 1) := by decide +kernel
theorem d_Tb_become_78 : decode b_Tb_become 78 = .ok (.aload_n 1, 1) := by decide +kernel
theorem d_Tb_become_79 : decode b_Tb_become 79 = .ok (.iload_n 3, 1) := by decide +kernel
theorem d_Tb_become_80 : decode b_Tb_become 80 = .ok (.iaload, 1) := by decide +kernel
theorem d_Tb_become_81 : decode b_Tb_become 81 = .ok (.invokevirtual 25, 3) := by decide +kernel
theorem d_Tb_become_84 : decode b_Tb_become 84 = .ok (.goto 10, 3) := by decide +kernel
theorem d_Tb_become_87 : decode b_Tb_become 87 = .ok (.aload_n 0, 1) := by decide +kernel
theorem d_Tb_become_88 : decode b_Tb_become 88 = .ok (.iconst 0, 1) := by decide +kernel
theorem d_Tb_become_89 : decode b_Tb_become 89 = .ok (.putfield 21, 3) := by decide +kernel
theorem d_Tb_become_92 : decode b_Tb_become 92 = .ok (.iconst 0, 1) := by decide +kernel
theorem d_Tb_become_93 : decode b_Tb_become 93 = .ok (.ireturn, 1) := by decide +kernel
theorem d_Tb_become_94 : decode b_Tb_become 94 = .ok (.iinc 3 1, 3) := by decide +kernel
theorem d_Tb_become_97 : decode b_Tb_become 97 = .ok (.goto (-90), 3) := by decide +kernel
theorem d_Tb_become_100 : decode b_Tb_become 100 = .ok (.iconst 1, 1) := by decide +kernel
theorem d_Tb_become_101 : decode b_Tb_become 101 = .ok (.ireturn, 1) := by decide +kernel
theorem d_Tb_put_0 : decode b_Tb_put 0 = .ok (.aload_n 0, 1) := by decide +kernel
theorem d_Tb_put_1 : decode b_Tb_put 1 = .ok (.getfield 9, 3) := by decide +kernel
theorem d_Tb_put_4 : decode b_Tb_put 4 = .ok (.iload_n 1, 1) := by decide +kernel
theorem d_Tb_put_5 : decode b_Tb_put 5 = .ok (.iload_n 2, 1) := by decide +kernel
theorem d_Tb_put_6 : decode b_Tb_put 6 = .ok (.iastore, 1) := by decide +kernel
theorem d_Tb_put_7 : decode b_Tb_put 7 = .ok (.aload_n 0, 1) := by decide +kernel
theorem d_Tb_put_8 : decode b_Tb_put 8 = .ok (.getfield 15, 3) := by decide +kernel
theorem d_Tb_put_11 : decode b_Tb_put 11 = .ok (.iload_n 1, 1) := by decide +kernel
theorem d_Tb_put_12 : decode b_Tb_put 12 = .ok (.iload_n 3, 1) := by decide +kernel
theorem d_Tb_put_13 : decode b_Tb_put 13 = .ok (.iastore, 1) := by decide +kernel
theorem d_Tb_put_14 : decode b_Tb_put 14 = .ok (.aload_n 0, 1) := by decide +kernel
theorem d_Tb_put_15 : decode b_Tb_put 15 = .ok (.getfield 18, 3) := by decide +kernel
theorem d_Tb_put_18 : decode b_Tb_put 18 = .ok (.iload_n 1, 1) := by decide +kernel
theorem d_Tb_put_19 : decode b_Tb_put 19 = .ok (.iload 4, 2) := by decide +kernel
theorem d_Tb_put_21 : decode b_Tb_put 21 = .ok (.iastore, 1) := by decide +kernel
theorem d_Tb_put_22 : decode b_Tb_put 22 = .ok (.iload_n 1, 1) := by decide +kernel
theorem d_Tb_put_23 : decode b_Tb_put 23 = .ok (.aload_n 0, 1) := by decide +kernel
theorem d_Tb_put_24 : decode b_Tb_put 24 = .ok (.getfield 21, 3) := by decide +kernel
theorem d_Tb_put_27 : decode b_Tb_put 27 = .ok (.if_icmp .ne 13, 3) := by decide +kernel
theorem d_Tb_put_30 : decode b_Tb_put 30 = .ok (.aload_n 0, 1) := by decide +kernel
theorem d_Tb_put_31 : decode b_Tb_put 31 = .ok (.dup, 1) := by decide +kernel
theorem d_Tb_put_32 : decode b_Tb_put 32 = .ok (.getfield 21, 3) := by decide +kernel
theorem d_Tb_put_35 : decode b_Tb_put 35 = .ok (.iconst 1, 1) := by decide +kernel
theorem d_Tb_put_36 : decode b_Tb_put 36 = .ok (.iadd, 1) := by decide +kernel
theorem d_Tb_put_37 : decode b_Tb_put 37 = .ok (.putfield 21, 3) := by decide +kernel
theorem d_Tb_put_40 : decode b_Tb_put 40 = .ok (.return_, 1) := by decide +kernel
theorem d_Ex_slot_0 : decode b_Ex_slot 0 = .ok (.aload_n 0, 1) := by decide +kernel
theorem d_Ex_slot_1 : decode b_Ex_slot 1 = .ok (.invokevirtual 52, 3) := by decide +kernel
theorem d_Ex_slot_4 : decode b_Ex_slot 4 = .ok (.iload_n 1, 1) := by decide +kernel
theorem d_Ex_slot_5 : decode b_Ex_slot 5 = .ok (.aload_n 0, 1) := by decide +kernel
theorem d_Ex_slot_6 : decode b_Ex_slot 6 = .ok (.getfield 19, 3) := by decide +kernel
theorem d_Ex_slot_9 : decode b_Ex_slot 9 = .ok (.getfield 94, 3) := by decide +kernel
theorem d_Ex_slot_12 : decode b_Ex_slot 12 = .ok (.iconst 1, 1) := by decide +kernel
theorem d_Ex_slot_13 : decode b_Ex_slot 13 = .ok (.iadd, 1) := by decide +kernel
theorem d_Ex_slot_14 : decode b_Ex_slot 14 = .ok (.bipush 60, 2) := by decide +kernel
theorem d_Ex_slot_16 : decode b_Ex_slot 16 = .ok (.invokestatic 107, 3) := by decide +kernel
theorem d_Ex_slot_19 : decode b_Ex_slot 19 = .ok (.invokestatic 55, 3) := by decide +kernel
theorem d_Ex_slot_22 : decode b_Ex_slot 22 = .ok (.iload 4, 2) := by decide +kernel
theorem d_Ex_slot_24 : decode b_Ex_slot 24 = .ok (.aload_n 0, 1) := by decide +kernel
theorem d_Ex_slot_25 : decode b_Ex_slot 25 = .ok (.getfield 10, 3) := by decide +kernel
theorem d_Ex_slot_28 : decode b_Ex_slot 28 = .ok (.getfield 62, 3) := by decide +kernel
theorem d_Ex_slot_31 : decode b_Ex_slot 31 = .ok (.invokestatic 55, 3) := by decide +kernel
theorem d_Ex_slot_34 : decode b_Ex_slot 34 = .ok (.iload_n 2, 1) := by decide +kernel
theorem d_Ex_slot_35 : decode b_Ex_slot 35 = .ok (.ifCond .lt 22, 3) := by decide +kernel
theorem d_Ex_slot_38 : decode b_Ex_slot 38 = .ok (.iload_n 2, 1) := by decide +kernel
theorem d_Ex_slot_39 : decode b_Ex_slot 39 = .ok (.sipush 240, 3) := by decide +kernel
theorem d_Ex_slot_42 : decode b_Ex_slot 42 = .ok (.if_icmp .ge 15, 3) := by decide +kernel
theorem d_Ex_slot_45 : decode b_Ex_slot 45 = .ok (.iload_n 3, 1) := by decide +kernel
theorem d_Ex_slot_46 : decode b_Ex_slot 46 = .ok (.iconst 1, 1) := by decide +kernel
theorem d_Ex_slot_47 : decode b_Ex_slot 47 = .ok (.if_icmp .lt 10, 3) := by decide +kernel
theorem d_Ex_slot_50 : decode b_Ex_slot 50 = .ok (.iload_n 3, 1) := by decide +kernel
theorem d_Ex_slot_51 : decode b_Ex_slot 51 = .ok (.sipush 240, 3) := by decide +kernel
theorem d_Ex_slot_54 : decode b_Ex_slot 54 = .ok (.if_icmp .le 13, 3) := by decide +kernel
theorem d_Ex_slot_57 : decode b_Ex_slot 57 = .ok (.new 76, 3) := by decide +kernel
theorem d_Ex_slot_60 : decode b_Ex_slot 60 = .ok (.dup, 1) := by decide +kernel
theorem d_Ex_slot_61 : decode b_Ex_slot 61 = .ok (.ldc 113, 2) := by decide +kernel
theorem d_Ex_slot_63 : decode b_Ex_slot 63 = .ok (.invokespecial 80, 3) := by decide +kernel
theorem d_Ex_slot_66 : decode b_Ex_slot 66 = .ok (.athrow, 1) := by decide +kernel
theorem d_Ex_slot_67 : decode b_Ex_slot 67 = .ok (.aload_n 0, 1) := by decide +kernel
theorem d_Ex_slot_68 : decode b_Ex_slot 68 = .ok (.getfield 19, 3) := by decide +kernel
theorem d_Ex_slot_71 : decode b_Ex_slot 71 = .ok (.iload_n 1, 1) := by decide +kernel
theorem d_Ex_slot_72 : decode b_Ex_slot 72 = .ok (.iload_n 2, 1) := by decide +kernel
theorem d_Ex_slot_73 : decode b_Ex_slot 73 = .ok (.iload_n 3, 1) := by decide +kernel
theorem d_Ex_slot_74 : decode b_Ex_slot 74 = .ok (.iload 4, 2) := by decide +kernel
theorem d_Ex_slot_76 : decode b_Ex_slot 76 = .ok (.invokevirtual 115, 3) := by decide +kernel
theorem d_Ex_slot_79 : decode b_Ex_slot 79 = .ok (.return_, 1) := by decide +kernel
theorem d_Ma_min_0 : decode b_Ma_min 0 = .ok (.iload_n 0, 1) := by decide +kernel
theorem d_Ma_min_1 : decode b_Ma_min 1 = .ok (.iload_n 1, 1) := by decide +kernel
theorem d_Ma_min_2 : decode b_Ma_min 2 = .ok (.if_icmp .gt 7, 3) := by decide +kernel
theorem d_Ma_min_5 : decode b_Ma_min 5 = .ok (.iload_n 0, 1) := by decide +kernel
theorem d_Ma_min_6 : decode b_Ma_min 6 = .ok (.goto 4, 3) := by decide +kernel
theorem d_Ma_min_9 : decode b_Ma_min 9 = .ok (.iload_n 1, 1) := by decide +kernel
theorem d_Ma_min_10 : decode b_Ma_min 10 = .ok (.ireturn, 1) := by decide +kernel
theorem d_Ex_drop_0 : decode b_Ex_drop 0 = .ok (.aload_n 0, 1) := by decide +kernel
theorem d_Ex_drop_1 : decode b_Ex_drop 1 = .ok (.invokevirtual 52, 3) := by decide +kernel
theorem d_Ex_drop_4 : decode b_Ex_drop 4 = .ok (.aload_n 0, 1) := by decide +kernel
theorem d_Ex_drop_5 : decode b_Ex_drop 5 = .ok (.getfield 19, 3) := by decide +kernel
theorem d_Ex_drop_8 : decode b_Ex_drop 8 = .ok (.getfield 94, 3) := by decide +kernel
theorem d_Ex_drop_11 : decode b_Ex_drop 11 = .ok (.ifCond .ne 13, 3) := by decide +kernel
theorem d_Ex_drop_14 : decode b_Ex_drop 14 = .ok (.new 65, 3) := by decide +kernel
theorem d_Ex_drop_17 : decode b_Ex_drop 17 = .ok (.dup, 1) := by decide +kernel
theorem d_Ex_drop_18 : decode b_Ex_drop 18 = .ok (.ldc 119, 2) := by decide +kernel
theorem d_Ex_drop_20 : decode b_Ex_drop 20 = .ok (.invokespecial 69, 3) := by decide +kernel
theorem d_Ex_drop_23 : decode b_Ex_drop 23 = .ok (.athrow, 1) := by decide +kernel
theorem d_Ex_drop_24 : decode b_Ex_drop 24 = .ok (.aload_n 0, 1) := by decide +kernel
theorem d_Ex_drop_25 : decode b_Ex_drop 25 = .ok (.getfield 19, 3) := by decide +kernel
theorem d_Ex_drop_28 : decode b_Ex_drop 28 = .ok (.dup, 1) := by decide +kernel
theorem d_Ex_drop_29 : decode b_Ex_drop 29 = .ok (.getfield 94, 3) := by decide +kernel
theorem d_Ex_drop_32 : decode b_Ex_drop 32 = .ok (.iconst 1, 1) := by decide +kernel
theorem d_Ex_drop_33 : decode b_Ex_drop 33 = .ok (.isub, 1) := by decide +kernel
theorem d_Ex_drop_34 : decode b_Ex_drop 34 = .ok (.putfield 94, 3) := by decide +kernel
theorem d_Ex_drop_37 : decode b_Ex_drop 37 = .ok (.return_, 1) := by decide +kernel
theorem d_Ex_slotOf_0 : decode b_Ex_slotOf 0 = .ok (.iload_n 1, 1) := by decide +kernel
theorem d_Ex_slotOf_1 : decode b_Ex_slotOf 1 = .ok (.aload_n 0, 1) := by decide +kernel
theorem d_Ex_slotOf_2 : decode b_Ex_slotOf 2 = .ok (.getfield 19, 3) := by decide +kernel
theorem d_Ex_slotOf_5 : decode b_Ex_slotOf 5 = .ok (.getfield 94, 3) := by decide +kernel
theorem d_Ex_slotOf_8 : decode b_Ex_slotOf 8 = .ok (.invokestatic 55, 3) := by decide +kernel
theorem d_Ex_slotOf_11 : decode b_Ex_slotOf 11 = .ok (.iload_n 2, 1) := by decide +kernel
theorem d_Ex_slotOf_12 : decode b_Ex_slotOf 12 = .ok (.iconst 3, 1) := by decide +kernel
theorem d_Ex_slotOf_13 : decode b_Ex_slotOf 13 = .ok (.invokestatic 55, 3) := by decide +kernel
theorem d_Ex_slotOf_16 : decode b_Ex_slotOf 16 = .ok (.aload_n 0, 1) := by decide +kernel
theorem d_Ex_slotOf_17 : decode b_Ex_slotOf 17 = .ok (.getfield 19, 3) := by decide +kernel
theorem d_Ex_slotOf_20 : decode b_Ex_slotOf 20 = .ok (.iload_n 1, 1) := by decide +kernel
theorem d_Ex_slotOf_21 : decode b_Ex_slotOf 21 = .ok (.iload_n 2, 1) := by decide +kernel
theorem d_Ex_slotOf_22 : decode b_Ex_slotOf 22 = .ok (.invokevirtual 121, 3) := by decide +kernel
theorem d_Ex_slotOf_25 : decode b_Ex_slotOf 25 = .ok (.ireturn, 1) := by decide +kernel
theorem d_Tb_part_0 : decode b_Tb_part 0 = .ok (.iload_n 2, 1) := by decide +kernel
theorem d_Tb_part_1 : decode b_Tb_part 1 = .ok (.lookupswitch 41 #[(0, 27), (1, 34)], 27) := by decide +kernel
theorem d_Tb_part_28 : decode b_Tb_part 28 = .ok (.aload_n 0, 1) := by decide +kernel
theorem d_Tb_part_29 : decode b_Tb_part 29 = .ok (.getfield 9, 3) := by decide +kernel
theorem d_Tb_part_32 : decode b_Tb_part 32 = .ok (.iload_n 1, 1) := by decide +kernel
theorem d_Tb_part_33 : decode b_Tb_part 33 = .ok (.iaload, 1) := by decide +kernel
theorem d_Tb_part_34 : decode b_Tb_part 34 = .ok (.ireturn, 1) := by decide +kernel
theorem d_Tb_part_35 : decode b_Tb_part 35 = .ok (.aload_n 0, 1) := by decide +kernel
theorem d_Tb_part_36 : decode b_Tb_part 36 = .ok (.getfield 15, 3) := by decide +kernel
theorem d_Tb_part_39 : decode b_Tb_part 39 = .ok (.iload_n 1, 1) := by decide +kernel
theorem d_Tb_part_40 : decode b_Tb_part 40 = .ok (.iaload, 1) := by decide +kernel
theorem d_Tb_part_41 : decode b_Tb_part 41 = .ok (.ireturn, 1) := by decide +kernel
theorem d_Tb_part_42 : decode b_Tb_part 42 = .ok (.aload_n 0, 1) := by decide +kernel
theorem d_Tb_part_43 : decode b_Tb_part 43 = .ok (.getfield 18, 3) := by decide +kernel
theorem d_Tb_part_46 : decode b_Tb_part 46 = .ok (.iload_n 1, 1) := by decide +kernel
theorem d_Tb_part_47 : decode b_Tb_part 47 = .ok (.iaload, 1) := by decide +kernel
theorem d_Tb_part_48 : decode b_Tb_part 48 = .ok (.ireturn, 1) := by decide +kernel
theorem d_Ex_check_0 : decode b_Ex_check 0 = .ok (.aload_n 0, 1) := by decide +kernel
theorem d_Ex_check_1 : decode b_Ex_check 1 = .ok (.invokevirtual 52, 3) := by decide +kernel
theorem d_Ex_check_4 : decode b_Ex_check 4 = .ok (.aload_n 0, 1) := by decide +kernel
theorem d_Ex_check_5 : decode b_Ex_check 5 = .ok (.getfield 10, 3) := by decide +kernel
theorem d_Ex_check_8 : decode b_Ex_check 8 = .ok (.invokevirtual 95, 3) := by decide +kernel
theorem d_Ex_check_11 : decode b_Ex_check 11 = .ok (.istore_n 1, 1) := by decide +kernel
theorem d_Ex_check_12 : decode b_Ex_check 12 = .ok (.iload_n 1, 1) := by decide +kernel
theorem d_Ex_check_13 : decode b_Ex_check 13 = .ok (.bipush (-3), 2) := by decide +kernel
theorem d_Ex_check_15 : decode b_Ex_check 15 = .ok (.if_icmp .eq 33, 3) := by decide +kernel
theorem d_Ex_check_18 : decode b_Ex_check 18 = .ok (.aload_n 0, 1) := by decide +kernel
theorem d_Ex_check_19 : decode b_Ex_check 19 = .ok (.getfield 19, 3) := by decide +kernel
theorem d_Ex_check_22 : decode b_Ex_check 22 = .ok (.aload_n 0, 1) := by decide +kernel
theorem d_Ex_check_23 : decode b_Ex_check 23 = .ok (.getfield 37, 3) := by decide +kernel
theorem d_Ex_check_26 : decode b_Ex_check 26 = .ok (.iload_n 1, 1) := by decide +kernel
theorem d_Ex_check_27 : decode b_Ex_check 27 = .ok (.invokevirtual 124, 3) := by decide +kernel
theorem d_Ex_check_30 : decode b_Ex_check 30 = .ok (.ifCond .eq 18, 3) := by decide +kernel
theorem d_Ex_check_33 : decode b_Ex_check 33 = .ok (.aload_n 0, 1) := by decide +kernel
theorem d_Ex_check_34 : decode b_Ex_check 34 = .ok (.getfield 10, 3) := by decide +kernel
theorem d_Ex_check_37 : decode b_Ex_check 37 = .ok (.aload_n 0, 1) := by decide +kernel
theorem d_Ex_check_38 : decode b_Ex_check 38 = .ok (.getfield 37, 3) := by decide +kernel
theorem d_Ex_check_41 : decode b_Ex_check 41 = .ok (.iload_n 1, 1) := by decide +kernel
theorem d_Ex_check_42 : decode b_Ex_check 42 = .ok (.invokevirtual 127, 3) := by decide +kernel
theorem d_Ex_check_45 : decode b_Ex_check 45 = .ok (.ifCond .ne 5, 3) := by decide +kernel
theorem d_Ex_check_48 : decode b_Ex_check 48 = .ok (.iconst 0, 1) := by decide +kernel
theorem d_Ex_check_49 : decode b_Ex_check 49 = .ok (.ireturn, 1) := by decide +kernel
theorem d_Ex_check_50 : decode b_Ex_check 50 = .ok (.aload_n 0, 1) := by decide +kernel
theorem d_Ex_check_51 : decode b_Ex_check 51 = .ok (.iload_n 1, 1) := by decide +kernel
theorem d_Ex_check_52 : decode b_Ex_check 52 = .ok (.invokevirtual 130, 3) := by decide +kernel
theorem d_Ex_check_55 : decode b_Ex_check 55 = .ok (.iconst 1, 1) := by decide +kernel
theorem d_Ex_check_56 : decode b_Ex_check 56 = .ok (.ireturn, 1) := by decide +kernel
theorem d_Tb_spread_0 : decode b_Tb_spread 0 = .ok (.aload_n 1, 1) := by decide +kernel
theorem d_Tb_spread_1 : decode b_Tb_spread 1 = .ok (.iconst (-1), 1) := by decide +kernel
theorem d_Tb_spread_2 : decode b_Tb_spread 2 = .ok (.invokestatic 29, 3) := by decide +kernel
theorem d_Tb_spread_5 : decode b_Tb_spread 5 = .ok (.iconst 0, 1) := by decide +kernel
theorem d_Tb_spread_6 : decode b_Tb_spread 6 = .ok (.istore_n 3, 1) := by decide +kernel
theorem d_Tb_spread_7 : decode b_Tb_spread 7 = .ok (.iload_n 3, 1) := by decide +kernel
theorem d_Tb_spread_8 : decode b_Tb_spread 8 = .ok (.aload_n 0, 1) := by decide +kernel
theorem d_Tb_spread_9 : decode b_Tb_spread 9 = .ok (.getfield 21, 3) := by decide +kernel
theorem d_Tb_spread_12 : decode b_Tb_spread 12 = .ok (.if_icmp .ge 80, 3) := by decide +kernel
theorem d_Tb_spread_15 : decode b_Tb_spread 15 = .ok (.aload_n 0, 1) := by decide +kernel
theorem d_Tb_spread_16 : decode b_Tb_spread 16 = .ok (.getfield 9, 3) := by decide +kernel
theorem d_Tb_spread_19 : decode b_Tb_spread 19 = .ok (.iload_n 3, 1) := by decide +kernel
theorem d_Tb_spread_20 : decode b_Tb_spread 20 = .ok (.iaload, 1) := by decide +kernel
theorem d_Tb_spread_21 : decode b_Tb_spread 21 = .ok (.aload_n 0, 1) := by decide +kernel
theorem d_Tb_spread_22 : decode b_Tb_spread 22 = .ok (.getfield 15, 3) := by decide +kernel
theorem d_Tb_spread_25 : decode b_Tb_spread 25 = .ok (.iload_n 3, 1) := by decide +kernel
theorem d_Tb_spread_26 : decode b_Tb_spread 26 = .ok (.iaload, 1) := by decide +kernel
theorem d_Tb_spread_27 : decode b_Tb_spread 27 = .ok (.iadd, 1) := by decide +kernel
theorem d_Tb_spread_28 : decode b_Tb_spread 28 = .ok (.iload_n 2, 1) := by decide +kernel
theorem d_Tb_spread_29 : decode b_Tb_spread 29 = .ok (.if_icmp .le 5, 3) := by decide +kernel
theorem d_Tb_spread_32 : decode b_Tb_spread 32 = .ok (.iconst 0, 1) := by decide +kernel
theorem d_Tb_spread_33 : decode b_Tb_spread 33 = .ok (.ireturn, 1) := by decide +kernel
theorem d_Tb_spread_34 : decode b_Tb_spread 34 = .ok (.aload_n 0, 1) := by decide +kernel
theorem d_Tb_spread_35 : decode b_Tb_spread 35 = .ok (.getfield 9, 3) := by decide +kernel
theorem d_Tb_spread_38 : decode b_Tb_spread 38 = .ok (.iload_n 3, 1) := by decide +kernel
theorem d_Tb_spread_39 : decode b_Tb_spread 39 = .ok (.iaload, 1) := by decide +kernel
theorem d_Tb_spread_40 : decode b_Tb_spread 40 = .ok (.istore 4, 2) := by decide +kernel
theorem d_Tb_spread_42 : decode b_Tb_spread 42 = .ok (.iload 4, 2) := by decide +kernel
theorem d_Tb_spread_44 : decode b_Tb_spread 44 = .ok (.aload_n 0, 1) := by decide +kernel
theorem d_Tb_spread_45 : decode b_Tb_spread 45 = .ok (.getfield 9, 3) := by decide +kernel
theorem d_Tb_spread_48 : decode b_Tb_spread 48 = .ok (.iload_n 3, 1) := by decide +kernel
theorem d_Tb_spread_49 : decode b_Tb_spread 49 = .ok (.iaload, 1) := by decide +kernel
theorem d_Tb_spread_50 : decode b_Tb_spread 50 = .ok (.aload_n 0, 1) := by decide +kernel
theorem d_Tb_spread_51 : decode b_Tb_spread 51 = .ok (.getfield 15, 3) := by decide +kernel
theorem d_Tb_spread_54 : decode b_Tb_spread 54 = .ok (.iload_n 3, 1) := by decide +kernel
theorem d_Tb_spread_55 : decode b_Tb_spread 55 = .ok (.iaload, 1) := by decide +kernel
theorem d_Tb_spread_56 : decode b_Tb_spread 56 = .ok (.iadd, 1) := by decide +kernel
theorem d_Tb_spread_57 : decode b_Tb_spread 57 = .ok (.if_icmp .ge 29, 3) := by decide +kernel
theorem d_Tb_spread_60 : decode b_Tb_spread 60 = .ok (.aload_n 1, 1) := by decide +kernel
theorem d_Tb_spread_61 : decode b_Tb_spread 61 = .ok (.iload 4, 2) := by decide +kernel
theorem d_Tb_spread_63 : decode b_Tb_spread 63 = .ok (.iaload, 1) := by decide +kernel
theorem d_Tb_spread_64 : decode b_Tb_spread 64 = .ok (.iconst (-1), 1) := by decide +kernel
theorem d_Tb_spread_65 : decode b_Tb_spread 65 = .ok (.if_icmp .eq 5, 3) := by decide +kernel
theorem d_Tb_spread_68 : decode b_Tb_spread 68 = .ok (.iconst 0, 1) := by decide +kernel
theorem d_Tb_spread_69 : decode b_Tb_spread 69 = .ok (.ireturn, 1) := by decide +kernel
theorem d_Tb_spread_70 : decode b_Tb_spread 70 = .ok (.aload_n 1, 1) := by decide +kernel
theorem d_Tb_spread_71 : decode b_Tb_spread 71 = .ok (.iload 4, 2) := by decide +kernel
theorem d_Tb_spread_73 : decode b_Tb_spread 73 = .ok (.aload_n 0, 1) := by decide +kernel
theorem d_Tb_spread_74 : decode b_Tb_spread 74 = .ok (.getfield 18, 3) := by decide +kernel
theorem d_Tb_spread_77 : decode b_Tb_spread 77 = .ok (.iload_n 3, 1) := by decide +kernel
theorem d_Tb_spread_78 : decode b_Tb_spread 78 = .ok (.iaload, 1) := by decide +kernel
theorem d_Tb_spread_79 : decode b_Tb_spread 79 = .ok (.iastore, 1) := by decide +kernel
theorem d_Tb_spread_80 : decode b_Tb_spread 80 = .ok (.iinc 4 1, 3) := by decide +kernel
theorem d_Tb_spread_83 : decode b_Tb_spread 83 = .ok (.goto (-41), 3) := by decide +kernel
theorem d_Tb_spread_86 : decode b_Tb_spread 86 = .ok (.iinc 3 1, 3) := by decide +kernel
theorem d_Tb_spread_89 : decode b_Tb_spread 89 = .ok (.goto (-82), 3) := by decide +kernel
theorem d_Tb_spread_92 : decode b_Tb_spread 92 = .ok (.iconst 1, 1) := by decide +kernel
theorem d_Tb_spread_93 : decode b_Tb_spread 93 = .ok (.ireturn, 1) := by decide +kernel
theorem d_Tl_areServed_0 : decode b_Tl_areServed 0 = .ok (.iconst 0, 1) := by decide +kernel
theorem d_Tl_areServed_1 : decode b_Tl_areServed 1 = .ok (.istore_n 3, 1) := by decide +kernel
theorem d_Tl_areServed_2 : decode b_Tl_areServed 2 = .ok (.iload_n 3, 1) := by decide +kernel
theorem d_Tl_areServed_3 : decode b_Tl_areServed 3 = .ok (.aload_n 0, 1) := by decide +kernel
theorem d_Tl_areServed_4 : decode b_Tl_areServed 4 = .ok (.getfield 18, 3) := by decide +kernel
theorem d_Tl_areServed_7 : decode b_Tl_areServed 7 = .ok (.if_icmp .ge 26, 3) := by decide +kernel
theorem d_Tl_areServed_10 : decode b_Tl_areServed 10 = .ok (.aload_n 0, 1) := by decide +kernel
theorem d_Tl_areServed_11 : decode b_Tl_areServed 11 = .ok (.getfield 11, 3) := by decide +kernel
theorem d_Tl_areServed_14 : decode b_Tl_areServed 14 = .ok (.iload_n 3, 1) := by decide +kernel
theorem d_Tl_areServed_15 : decode b_Tl_areServed 15 = .ok (.aaload, 1) := by decide +kernel
theorem d_Tl_areServed_16 : decode b_Tl_areServed 16 = .ok (.iload_n 3, 1) := by decide +kernel
theorem d_Tl_areServed_17 : decode b_Tl_areServed 17 = .ok (.aload_n 1, 1) := by decide +kernel
theorem d_Tl_areServed_18 : decode b_Tl_areServed 18 = .ok (.iload_n 2, 1) := by decide +kernel
theorem d_Tl_areServed_19 : decode b_Tl_areServed 19 = .ok (.invokevirtual 50, 3) := by decide +kernel
theorem d_Tl_areServed_22 : decode b_Tl_areServed 22 = .ok (.ifCond .ne 5, 3) := by decide +kernel
theorem d_Tl_areServed_25 : decode b_Tl_areServed 25 = .ok (.iconst 0, 1) := by decide +kernel
theorem d_Tl_areServed_26 : decode b_Tl_areServed 26 = .ok (.ireturn, 1) := by decide +kernel
theorem d_Tl_areServed_27 : decode b_Tl_areServed 27 = .ok (.iinc 3 1, 3) := by decide +kernel
theorem d_Tl_areServed_30 : decode b_Tl_areServed 30 = .ok (.goto (-28), 3) := by decide +kernel
theorem d_Tl_areServed_33 : decode b_Tl_areServed 33 = .ok (.iconst 1, 1) := by decide +kernel
theorem d_Tl_areServed_34 : decode b_Tl_areServed 34 = .ok (.ireturn, 1) := by decide +kernel
theorem d_Tk_isServed_0 : decode b_Tk_isServed 0 = .ok (.iconst 0, 1) := by decide +kernel
theorem d_Tk_isServed_1 : decode b_Tk_isServed 1 = .ok (.istore 4, 2) := by decide +kernel
theorem d_Tk_isServed_3 : decode b_Tk_isServed 3 = .ok (.iload 4, 2) := by decide +kernel
theorem d_Tk_isServed_5 : decode b_Tk_isServed 5 = .ok (.iload_n 3, 1) := by decide +kernel
theorem d_Tk_isServed_6 : decode b_Tk_isServed 6 = .ok (.aload_n 0, 1) := by decide +kernel
theorem d_Tk_isServed_7 : decode b_Tk_isServed 7 = .ok (.getfield 9, 3) := by decide +kernel
theorem d_Tk_isServed_10 : decode b_Tk_isServed 10 = .ok (.idiv, 1) := by decide +kernel
theorem d_Tk_isServed_11 : decode b_Tk_isServed 11 = .ok (.if_icmp .ge 69, 3) := by decide +kernel
theorem d_Tk_isServed_14 : decode b_Tk_isServed 14 = .ok (.aload_n 0, 1) := by decide +kernel
theorem d_Tk_isServed_15 : decode b_Tk_isServed 15 = .ok (.getfield 26, 3) := by decide +kernel
theorem d_Tk_isServed_18 : decode b_Tk_isServed 18 = .ok (.iload 4, 2) := by decide +kernel
theorem d_Tk_isServed_20 : decode b_Tk_isServed 20 = .ok (.aload_n 0, 1) := by decide +kernel
theorem d_Tk_isServed_21 : decode b_Tk_isServed 21 = .ok (.getfield 9, 3) := by decide +kernel
theorem d_Tk_isServed_24 : decode b_Tk_isServed 24 = .ok (.imul, 1) := by decide +kernel
theorem d_Tk_isServed_25 : decode b_Tk_isServed 25 = .ok (.iadd, 1) := by decide +kernel
theorem d_Tk_isServed_26 : decode b_Tk_isServed 26 = .ok (.istore 5, 2) := by decide +kernel
theorem d_Tk_isServed_28 : decode b_Tk_isServed 28 = .ok (.iload_n 1, 1) := by decide +kernel
theorem d_Tk_isServed_29 : decode b_Tk_isServed 29 = .ok (.iload 5, 2) := by decide +kernel
theorem d_Tk_isServed_31 : decode b_Tk_isServed 31 = .ok (.aload_n 0, 1) := by decide +kernel
theorem d_Tk_isServed_32 : decode b_Tk_isServed 32 = .ok (.getfield 48, 3) := by decide +kernel
theorem d_Tk_isServed_35 : decode b_Tk_isServed 35 = .ok (.aload_n 2, 1) := by decide +kernel
theorem d_Tk_isServed_36 : decode b_Tk_isServed 36 = .ok (.iload_n 3, 1) := by decide +kernel
theorem d_Tk_isServed_37 : decode b_Tk_isServed 37 = .ok (.invokestatic 51, 3) := by decide +kernel
theorem d_Tk_isServed_40 : decode b_Tk_isServed 40 = .ok (.aload_n 0, 1) := by decide +kernel
theorem d_Tk_isServed_41 : decode b_Tk_isServed 41 = .ok (.getfield 55, 3) := by decide +kernel
theorem d_Tk_isServed_44 : decode b_Tk_isServed 44 = .ok (.if_icmp .ne 28, 3) := by decide +kernel
theorem d_Tk_isServed_47 : decode b_Tk_isServed 47 = .ok (.iload_n 1, 1) := by decide +kernel
theorem d_Tk_isServed_48 : decode b_Tk_isServed 48 = .ok (.iload 5, 2) := by decide +kernel
theorem d_Tk_isServed_50 : decode b_Tk_isServed 50 = .ok (.aload_n 0, 1) := by decide +kernel
theorem d_Tk_isServed_51 : decode b_Tk_isServed 51 = .ok (.getfield 48, 3) := by decide +kernel
theorem d_Tk_isServed_54 : decode b_Tk_isServed 54 = .ok (.iadd, 1) := by decide +kernel
theorem d_Tk_isServed_55 : decode b_Tk_isServed 55 = .ok (.aload_n 0, 1) := by decide +kernel
theorem d_Tk_isServed_56 : decode b_Tk_isServed 56 = .ok (.getfield 9, 3) := by decide +kernel
theorem d_Tk_isServed_59 : decode b_Tk_isServed 59 = .ok (.aload_n 0, 1) := by decide +kernel
theorem d_Tk_isServed_60 : decode b_Tk_isServed 60 = .ok (.getfield 48, 3) := by decide +kernel
theorem d_Tk_isServed_63 : decode b_Tk_isServed 63 = .ok (.isub, 1) := by decide +kernel
theorem d_Tk_isServed_64 : decode b_Tk_isServed 64 = .ok (.aload_n 2, 1) := by decide +kernel
theorem d_Tk_isServed_65 : decode b_Tk_isServed 65 = .ok (.iload_n 3, 1) := by decide +kernel
theorem d_Tk_isServed_66 : decode b_Tk_isServed 66 = .ok (.invokestatic 51, 3) := by decide +kernel
theorem d_Tk_isServed_69 : decode b_Tk_isServed 69 = .ok (.ifCond .eq 5, 3) := by decide +kernel
theorem d_Tk_isServed_72 : decode b_Tk_isServed 72 = .ok (.iconst 0, 1) := by decide +kernel
theorem d_Tk_isServed_73 : decode b_Tk_isServed 73 = .ok (.ireturn, 1) := by decide +kernel
theorem d_Tk_isServed_74 : decode b_Tk_isServed 74 = .ok (.iinc 4 1, 3) := by decide +kernel
theorem d_Tk_isServed_77 : decode b_Tk_isServed 77 = .ok (.goto (-74), 3) := by decide +kernel
theorem d_Tk_isServed_80 : decode b_Tk_isServed 80 = .ok (.iconst 1, 1) := by decide +kernel
theorem d_Tk_isServed_81 : decode b_Tk_isServed 81 = .ok (.ireturn, 1) := by decide +kernel
theorem d_Tk_ticksOf_0 : decode b_Tk_ticksOf 0 = .ok (.iconst 0, 1) := by decide +kernel
theorem d_Tk_ticksOf_1 : decode b_Tk_ticksOf 1 = .ok (.istore 5, 2) := by decide +kernel
theorem d_Tk_ticksOf_3 : decode b_Tk_ticksOf 3 = .ok (.iload_n 1, 1) := by decide +kernel
theorem d_Tk_ticksOf_4 : decode b_Tk_ticksOf 4 = .ok (.istore 6, 2) := by decide +kernel
theorem d_Tk_ticksOf_6 : decode b_Tk_ticksOf 6 = .ok (.iload 6, 2) := by decide +kernel
theorem d_Tk_ticksOf_8 : decode b_Tk_ticksOf 8 = .ok (.iload_n 1, 1) := by decide +kernel
theorem d_Tk_ticksOf_9 : decode b_Tk_ticksOf 9 = .ok (.iload_n 2, 1) := by decide +kernel
theorem d_Tk_ticksOf_10 : decode b_Tk_ticksOf 10 = .ok (.iadd, 1) := by decide +kernel
theorem d_Tk_ticksOf_11 : decode b_Tk_ticksOf 11 = .ok (.if_icmp .ge 23, 3) := by decide +kernel
theorem d_Tk_ticksOf_14 : decode b_Tk_ticksOf 14 = .ok (.aload_n 3, 1) := by decide +kernel
theorem d_Tk_ticksOf_15 : decode b_Tk_ticksOf 15 = .ok (.iload 6, 2) := by decide +kernel
theorem d_Tk_ticksOf_17 : decode b_Tk_ticksOf 17 = .ok (.iload 4, 2) := by decide +kernel
theorem d_Tk_ticksOf_19 : decode b_Tk_ticksOf 19 = .ok (.irem, 1) := by decide +kernel
theorem d_Tk_ticksOf_20 : decode b_Tk_ticksOf 20 = .ok (.iaload, 1) := by decide +kernel
theorem d_Tk_ticksOf_21 : decode b_Tk_ticksOf 21 = .ok (.iload_n 0, 1) := by decide +kernel
theorem d_Tk_ticksOf_22 : decode b_Tk_ticksOf 22 = .ok (.if_icmp .ne 6, 3) := by decide +kernel
theorem d_Tk_ticksOf_25 : decode b_Tk_ticksOf 25 = .ok (.iinc 5 1, 3) := by decide +kernel
theorem d_Tk_ticksOf_28 : decode b_Tk_ticksOf 28 = .ok (.iinc 6 1, 3) := by decide +kernel
theorem d_Tk_ticksOf_31 : decode b_Tk_ticksOf 31 = .ok (.goto (-25), 3) := by decide +kernel
theorem d_Tk_ticksOf_34 : decode b_Tk_ticksOf 34 = .ok (.iload 5, 2) := by decide +kernel
theorem d_Tk_ticksOf_36 : decode b_Tk_ticksOf 36 = .ok (.ireturn, 1) := by decide +kernel
theorem d_Ex_startRun_0 : decode b_Ex_startRun 0 = .ok (.aload_n 0, 1) := by decide +kernel
theorem d_Ex_startRun_1 : decode b_Ex_startRun 1 = .ok (.iconst 1, 1) := by decide +kernel
theorem d_Ex_startRun_2 : decode b_Ex_startRun 2 = .ok (.putfield 41, 3) := by decide +kernel
theorem d_Ex_startRun_5 : decode b_Ex_startRun 5 = .ok (.aload_n 0, 1) := by decide +kernel
theorem d_Ex_startRun_6 : decode b_Ex_startRun 6 = .ok (.iload_n 1, 1) := by decide +kernel
theorem d_Ex_startRun_7 : decode b_Ex_startRun 7 = .ok (.putfield 45, 3) := by decide +kernel
theorem d_Ex_startRun_10 : decode b_Ex_startRun 10 = .ok (.aload_n 0, 1) := by decide +kernel
theorem d_Ex_startRun_11 : decode b_Ex_startRun 11 = .ok (.iconst 0, 1) := by decide +kernel
theorem d_Ex_startRun_12 : decode b_Ex_startRun 12 = .ok (.putfield 49, 3) := by decide +kernel
theorem d_Ex_startRun_15 : decode b_Ex_startRun 15 = .ok (.aload_n 0, 1) := by decide +kernel
theorem d_Ex_startRun_16 : decode b_Ex_startRun 16 = .ok (.getfield 33, 3) := by decide +kernel
theorem d_Ex_startRun_19 : decode b_Ex_startRun 19 = .ok (.getfield 145, 3) := by decide +kernel
theorem d_Ex_startRun_22 : decode b_Ex_startRun 22 = .ok (.iconst 0, 1) := by decide +kernel
theorem d_Ex_startRun_23 : decode b_Ex_startRun 23 = .ok (.invokestatic 157, 3) := by decide +kernel
theorem d_Ex_startRun_26 : decode b_Ex_startRun 26 = .ok (.iconst 0, 1) := by decide +kernel
theorem d_Ex_startRun_27 : decode b_Ex_startRun 27 = .ok (.istore_n 2, 1) := by decide +kernel
theorem d_Ex_startRun_28 : decode b_Ex_startRun 28 = .ok (.iload_n 2, 1) := by decide +kernel
theorem d_Ex_startRun_29 : decode b_Ex_startRun 29 = .ok (.aload_n 0, 1) := by decide +kernel
theorem d_Ex_startRun_30 : decode b_Ex_startRun 30 = .ok (.getfield 10, 3) := by decide +kernel
theorem d_Ex_startRun_33 : decode b_Ex_startRun 33 = .ok (.getfield 62, 3) := by decide +kernel
theorem d_Ex_startRun_36 : decode b_Ex_startRun 36 = .ok (.if_icmp .ge 21, 3) := by decide +kernel
theorem d_Ex_startRun_39 : decode b_Ex_startRun 39 = .ok (.aload_n 0, 1) := by decide +kernel
theorem d_Ex_startRun_40 : decode b_Ex_startRun 40 = .ok (.getfield 10, 3) := by decide +kernel
theorem d_Ex_startRun_43 : decode b_Ex_startRun 43 = .ok (.getfield 85, 3) := by decide +kernel
theorem d_Ex_startRun_46 : decode b_Ex_startRun 46 = .ok (.iload_n 2, 1) := by decide +kernel
theorem d_Ex_startRun_47 : decode b_Ex_startRun 47 = .ok (.aaload, 1) := by decide +kernel
theorem d_Ex_startRun_48 : decode b_Ex_startRun 48 = .ok (.invokevirtual 163, 3) := by decide +kernel
theorem d_Ex_startRun_51 : decode b_Ex_startRun 51 = .ok (.iinc 2 1, 3) := by decide +kernel
theorem d_Ex_startRun_54 : decode b_Ex_startRun 54 = .ok (.goto (-26), 3) := by decide +kernel
theorem d_Ex_startRun_57 : decode b_Ex_startRun 57 = .ok (.return_, 1) := by decide +kernel
theorem d_Ex_stop_0 : decode b_Ex_stop 0 = .ok (.aload_n 0, 1) := by decide +kernel
theorem d_Ex_stop_1 : decode b_Ex_stop 1 = .ok (.invokevirtual 134, 3) := by decide +kernel
theorem d_Ex_stop_4 : decode b_Ex_stop 4 = .ok (.aload_n 0, 1) := by decide +kernel
theorem d_Ex_stop_5 : decode b_Ex_stop 5 = .ok (.iconst 0, 1) := by decide +kernel
theorem d_Ex_stop_6 : decode b_Ex_stop 6 = .ok (.putfield 41, 3) := by decide +kernel
theorem d_Ex_stop_9 : decode b_Ex_stop 9 = .ok (.return_, 1) := by decide +kernel
theorem d_Ex_needRun_0 : decode b_Ex_needRun 0 = .ok (.aload_n 0, 1) := by decide +kernel
theorem d_Ex_needRun_1 : decode b_Ex_needRun 1 = .ok (.getfield 41, 3) := by decide +kernel
theorem d_Ex_needRun_4 : decode b_Ex_needRun 4 = .ok (.ifCond .ne 13, 3) := by decide +kernel
theorem d_Ex_needRun_7 : decode b_Ex_needRun 7 = .ok (.new 65, 3) := by decide +kernel
theorem d_Ex_needRun_10 : decode b_Ex_needRun 10 = .ok (.dup, 1) := by decide +kernel
theorem d_Ex_needRun_11 : decode b_Ex_needRun 11 = .ok (.ldc 150, 2) := by decide +kernel
theorem d_Ex_needRun_13 : decode b_Ex_needRun 13 = .ok (.invokespecial 69, 3) := by decide +kernel
theorem d_Ex_needRun_16 : decode b_Ex_needRun 16 = .ok (.athrow, 1) := by decide +kernel
theorem d_Ex_needRun_17 : decode b_Ex_needRun 17 = .ok (.return_, 1) := by decide +kernel
theorem d_Ex_tick_0 : decode b_Ex_tick 0 = .ok (.aload_n 0, 1) := by decide +kernel
theorem d_Ex_tick_1 : decode b_Ex_tick 1 = .ok (.invokevirtual 134, 3) := by decide +kernel
theorem d_Ex_tick_4 : decode b_Ex_tick 4 = .ok (.aload_n 0, 1) := by decide +kernel
theorem d_Ex_tick_5 : decode b_Ex_tick 5 = .ok (.invokevirtual 137, 3) := by decide +kernel
theorem d_Ex_tick_8 : decode b_Ex_tick 8 = .ok (.ireturn, 1) := by decide +kernel
theorem d_Ex_runTick_0 : decode b_Ex_runTick 0 = .ok (.aload_n 0, 1) := by decide +kernel
theorem d_Ex_runTick_1 : decode b_Ex_runTick 1 = .ok (.getfield 10, 3) := by decide +kernel
theorem d_Ex_runTick_4 : decode b_Ex_runTick 4 = .ok (.aload_n 0, 1) := by decide +kernel
theorem d_Ex_runTick_5 : decode b_Ex_runTick 5 = .ok (.getfield 49, 3) := by decide +kernel
theorem d_Ex_runTick_8 : decode b_Ex_runTick 8 = .ok (.invokevirtual 166, 3) := by decide +kernel
theorem d_Ex_runTick_11 : decode b_Ex_runTick 11 = .ok (.aload_n 0, 1) := by decide +kernel
theorem d_Ex_runTick_12 : decode b_Ex_runTick 12 = .ok (.getfield 37, 3) := by decide +kernel
theorem d_Ex_runTick_15 : decode b_Ex_runTick 15 = .ok (.aload_n 0, 1) := by decide +kernel
theorem d_Ex_runTick_16 : decode b_Ex_runTick 16 = .ok (.getfield 49, 3) := by decide +kernel
theorem d_Ex_runTick_19 : decode b_Ex_runTick 19 = .ok (.aload_n 0, 1) := by decide +kernel
theorem d_Ex_runTick_20 : decode b_Ex_runTick 20 = .ok (.getfield 45, 3) := by decide +kernel
theorem d_Ex_runTick_23 : decode b_Ex_runTick 23 = .ok (.invokestatic 169, 3) := by decide +kernel
theorem d_Ex_runTick_26 : decode b_Ex_runTick 26 = .ok (.iaload, 1) := by decide +kernel
theorem d_Ex_runTick_27 : decode b_Ex_runTick 27 = .ok (.istore_n 1, 1) := by decide +kernel
theorem d_Ex_runTick_28 : decode b_Ex_runTick 28 = .ok (.iconst (-1), 1) := by decide +kernel
theorem d_Ex_runTick_29 : decode b_Ex_runTick 29 = .ok (.istore_n 2, 1) := by decide +kernel
theorem d_Ex_runTick_30 : decode b_Ex_runTick 30 = .ok (.iload_n 1, 1) := by decide +kernel
theorem d_Ex_runTick_31 : decode b_Ex_runTick 31 = .ok (.iconst (-1), 1) := by decide +kernel
theorem d_Ex_runTick_32 : decode b_Ex_runTick 32 = .ok (.if_icmp .eq 40, 3) := by decide +kernel
theorem d_Ex_runTick_35 : decode b_Ex_runTick 35 = .ok (.aload_n 0, 1) := by decide +kernel
theorem d_Ex_runTick_36 : decode b_Ex_runTick 36 = .ok (.getfield 10, 3) := by decide +kernel
theorem d_Ex_runTick_39 : decode b_Ex_runTick 39 = .ok (.getfield 85, 3) := by decide +kernel
theorem d_Ex_runTick_42 : decode b_Ex_runTick 42 = .ok (.iload_n 1, 1) := by decide +kernel
theorem d_Ex_runTick_43 : decode b_Ex_runTick 43 = .ok (.aaload, 1) := by decide +kernel
theorem d_Ex_runTick_44 : decode b_Ex_runTick 44 = .ok (.getfield 172, 3) := by decide +kernel
theorem d_Ex_runTick_47 : decode b_Ex_runTick 47 = .ok (.getfield 176, 3) := by decide +kernel
theorem d_Ex_runTick_50 : decode b_Ex_runTick 50 = .ok (.ifCond .eq 22, 3) := by decide +kernel
theorem d_Ex_runTick_53 : decode b_Ex_runTick 53 = .ok (.iload_n 1, 1) := by decide +kernel
theorem d_Ex_runTick_54 : decode b_Ex_runTick 54 = .ok (.bipush 100, 2) := by decide +kernel
theorem d_Ex_runTick_56 : decode b_Ex_runTick 56 = .ok (.aload_n 0, 1) := by decide +kernel
theorem d_Ex_runTick_57 : decode b_Ex_runTick 57 = .ok (.aload_n 0, 1) := by decide +kernel
theorem d_Ex_runTick_58 : decode b_Ex_runTick 58 = .ok (.getfield 10, 3) := by decide +kernel
theorem d_Ex_runTick_61 : decode b_Ex_runTick 61 = .ok (.getfield 85, 3) := by decide +kernel
theorem d_Ex_runTick_64 : decode b_Ex_runTick 64 = .ok (.iload_n 1, 1) := by decide +kernel
theorem d_Ex_runTick_65 : decode b_Ex_runTick 65 = .ok (.aaload, 1) := by decide +kernel
theorem d_Ex_runTick_66 : decode b_Ex_runTick 66 = .ok (.invokevirtual 181, 3) := by decide +kernel
theorem d_Ex_runTick_69 : decode b_Ex_runTick 69 = .ok (.imul, 1) := by decide +kernel
theorem d_Ex_runTick_70 : decode b_Ex_runTick 70 = .ok (.iadd, 1) := by decide +kernel
theorem d_Ex_runTick_71 : decode b_Ex_runTick 71 = .ok (.istore_n 2, 1) := by decide +kernel
theorem d_Ex_runTick_72 : decode b_Ex_runTick 72 = .ok (.aload_n 0, 1) := by decide +kernel
theorem d_Ex_runTick_73 : decode b_Ex_runTick 73 = .ok (.dup, 1) := by decide +kernel
theorem d_Ex_runTick_74 : decode b_Ex_runTick 74 = .ok (.getfield 49, 3) := by decide +kernel
theorem d_Ex_runTick_77 : decode b_Ex_runTick 77 = .ok (.iconst 1, 1) := by decide +kernel
theorem d_Ex_runTick_78 : decode b_Ex_runTick 78 = .ok (.iadd, 1) := by decide +kernel
theorem d_Ex_runTick_79 : decode b_Ex_runTick 79 = .ok (.putfield 49, 3) := by decide +kernel
theorem d_Ex_runTick_82 : decode b_Ex_runTick 82 = .ok (.iload_n 2, 1) := by decide +kernel
theorem d_Ex_runTick_83 : decode b_Ex_runTick 83 = .ok (.ireturn, 1) := by decide +kernel
theorem d_Tl_releaseJobs_0 : decode b_Tl_releaseJobs 0 = .ok (.iconst 0, 1) := by decide +kernel
theorem d_Tl_releaseJobs_1 : decode b_Tl_releaseJobs 1 = .ok (.istore_n 2, 1) := by decide +kernel
theorem d_Tl_releaseJobs_2 : decode b_Tl_releaseJobs 2 = .ok (.iload_n 2, 1) := by decide +kernel
theorem d_Tl_releaseJobs_3 : decode b_Tl_releaseJobs 3 = .ok (.aload_n 0, 1) := by decide +kernel
theorem d_Tl_releaseJobs_4 : decode b_Tl_releaseJobs 4 = .ok (.getfield 18, 3) := by decide +kernel
theorem d_Tl_releaseJobs_7 : decode b_Tl_releaseJobs 7 = .ok (.if_icmp .ge 44, 3) := by decide +kernel
theorem d_Tl_releaseJobs_10 : decode b_Tl_releaseJobs 10 = .ok (.aload_n 0, 1) := by decide +kernel
theorem d_Tl_releaseJobs_11 : decode b_Tl_releaseJobs 11 = .ok (.getfield 11, 3) := by decide +kernel
theorem d_Tl_releaseJobs_14 : decode b_Tl_releaseJobs 14 = .ok (.iload_n 2, 1) := by decide +kernel
theorem d_Tl_releaseJobs_15 : decode b_Tl_releaseJobs 15 = .ok (.aaload, 1) := by decide +kernel
theorem d_Tl_releaseJobs_16 : decode b_Tl_releaseJobs 16 = .ok (.iload_n 1, 1) := by decide +kernel
theorem d_Tl_releaseJobs_17 : decode b_Tl_releaseJobs 17 = .ok (.invokevirtual 54, 3) := by decide +kernel
theorem d_Tl_releaseJobs_20 : decode b_Tl_releaseJobs 20 = .ok (.ifCond .eq 25, 3) := by decide +kernel
theorem d_Tl_releaseJobs_23 : decode b_Tl_releaseJobs 23 = .ok (.aload_n 0, 1) := by decide +kernel
theorem d_Tl_releaseJobs_24 : decode b_Tl_releaseJobs 24 = .ok (.getfield 11, 3) := by decide +kernel
theorem d_Tl_releaseJobs_27 : decode b_Tl_releaseJobs 27 = .ok (.iload_n 2, 1) := by decide +kernel
theorem d_Tl_releaseJobs_28 : decode b_Tl_releaseJobs 28 = .ok (.aaload, 1) := by decide +kernel
theorem d_Tl_releaseJobs_29 : decode b_Tl_releaseJobs 29 = .ok (.getfield 57, 3) := by decide +kernel
theorem d_Tl_releaseJobs_32 : decode b_Tl_releaseJobs 32 = .ok (.aload_n 0, 1) := by decide +kernel
theorem d_Tl_releaseJobs_33 : decode b_Tl_releaseJobs 33 = .ok (.getfield 11, 3) := by decide +kernel
theorem d_Tl_releaseJobs_36 : decode b_Tl_releaseJobs 36 = .ok (.iload_n 2, 1) := by decide +kernel
theorem d_Tl_releaseJobs_37 : decode b_Tl_releaseJobs 37 = .ok (.aaload, 1) := by decide +kernel
theorem d_Tl_releaseJobs_38 : decode b_Tl_releaseJobs 38 = .ok (.getfield 34, 3) := by decide +kernel
theorem d_Tl_releaseJobs_41 : decode b_Tl_releaseJobs 41 = .ok (.iload_n 1, 1) := by decide +kernel
theorem d_Tl_releaseJobs_42 : decode b_Tl_releaseJobs 42 = .ok (.invokevirtual 61, 3) := by decide +kernel
theorem d_Tl_releaseJobs_45 : decode b_Tl_releaseJobs 45 = .ok (.iinc 2 1, 3) := by decide +kernel
theorem d_Tl_releaseJobs_48 : decode b_Tl_releaseJobs 48 = .ok (.goto (-46), 3) := by decide +kernel
theorem d_Tl_releaseJobs_51 : decode b_Tl_releaseJobs 51 = .ok (.return_, 1) := by decide +kernel
theorem d_Jb_start_0 : decode b_Jb_start 0 = .ok (.aload_n 0, 1) := by decide +kernel
theorem d_Jb_start_1 : decode b_Jb_start 1 = .ok (.getfield 9, 3) := by decide +kernel
theorem d_Jb_start_4 : decode b_Jb_start 4 = .ok (.iconst 0, 1) := by decide +kernel
theorem d_Jb_start_5 : decode b_Jb_start 5 = .ok (.invokestatic 15, 3) := by decide +kernel
theorem d_Jb_start_8 : decode b_Jb_start 8 = .ok (.aload_n 0, 1) := by decide +kernel
theorem d_Jb_start_9 : decode b_Jb_start 9 = .ok (.iload_n 1, 1) := by decide +kernel
theorem d_Jb_start_10 : decode b_Jb_start 10 = .ok (.putfield 21, 3) := by decide +kernel
theorem d_Jb_start_13 : decode b_Jb_start 13 = .ok (.aload_n 0, 1) := by decide +kernel
theorem d_Jb_start_14 : decode b_Jb_start 14 = .ok (.iconst 0, 1) := by decide +kernel
theorem d_Jb_start_15 : decode b_Jb_start 15 = .ok (.putfield 25, 3) := by decide +kernel
theorem d_Jb_start_18 : decode b_Jb_start 18 = .ok (.aload_n 0, 1) := by decide +kernel
theorem d_Jb_start_19 : decode b_Jb_start 19 = .ok (.iload_n 2, 1) := by decide +kernel
theorem d_Jb_start_20 : decode b_Jb_start 20 = .ok (.putfield 28, 3) := by decide +kernel
theorem d_Jb_start_23 : decode b_Jb_start 23 = .ok (.aload_n 0, 1) := by decide +kernel
theorem d_Jb_start_24 : decode b_Jb_start 24 = .ok (.iconst 1, 1) := by decide +kernel
theorem d_Jb_start_25 : decode b_Jb_start 25 = .ok (.putfield 31, 3) := by decide +kernel
theorem d_Jb_start_28 : decode b_Jb_start 28 = .ok (.return_, 1) := by decide +kernel
theorem d_Ma_floorMod_0 : decode b_Ma_floorMod 0 = .ok (.iload_n 0, 1) := by decide +kernel
theorem d_Ma_floorMod_1 : decode b_Ma_floorMod 1 = .ok (.iload_n 1, 1) := by decide +kernel
theorem d_Ma_floorMod_2 : decode b_Ma_floorMod 2 = .ok (.irem, 1) := by decide +kernel
theorem d_Ma_floorMod_3 : decode b_Ma_floorMod 3 = .ok (.istore_n 2, 1) := by decide +kernel
theorem d_Ma_floorMod_4 : decode b_Ma_floorMod 4 = .ok (.iload_n 0, 1) := by decide +kernel
theorem d_Ma_floorMod_5 : decode b_Ma_floorMod 5 = .ok (.iload_n 1, 1) := by decide +kernel
theorem d_Ma_floorMod_6 : decode b_Ma_floorMod 6 = .ok (.ixor, 1) := by decide +kernel
theorem d_Ma_floorMod_7 : decode b_Ma_floorMod 7 = .ok (.ifCond .ge 11, 3) := by decide +kernel
theorem d_Ma_floorMod_10 : decode b_Ma_floorMod 10 = .ok (.iload_n 2, 1) := by decide +kernel
theorem d_Ma_floorMod_11 : decode b_Ma_floorMod 11 = .ok (.ifCond .eq 7, 3) := by decide +kernel
theorem d_Ma_floorMod_14 : decode b_Ma_floorMod 14 = .ok (.iload_n 2, 1) := by decide +kernel
theorem d_Ma_floorMod_15 : decode b_Ma_floorMod 15 = .ok (.iload_n 1, 1) := by decide +kernel
theorem d_Ma_floorMod_16 : decode b_Ma_floorMod 16 = .ok (.iadd, 1) := by decide +kernel
theorem d_Ma_floorMod_17 : decode b_Ma_floorMod 17 = .ok (.ireturn, 1) := by decide +kernel
theorem d_Ma_floorMod_18 : decode b_Ma_floorMod 18 = .ok (.iload_n 2, 1) := by decide +kernel
theorem d_Ma_floorMod_19 : decode b_Ma_floorMod 19 = .ok (.ireturn, 1) := by decide +kernel
theorem d_Ex_serve_0 : decode b_Ex_serve 0 = .ok (.aload_n 1, 1) := by decide +kernel
theorem d_Ex_serve_1 : decode b_Ex_serve 1 = .ok (.getfield 172, 3) := by decide +kernel
theorem d_Ex_serve_4 : decode b_Ex_serve 4 = .ok (.astore_n 2, 1) := by decide +kernel
theorem d_Ex_serve_5 : decode b_Ex_serve 5 = .ok (.aload_n 0, 1) := by decide +kernel
theorem d_Ex_serve_6 : decode b_Ex_serve 6 = .ok (.getfield 33, 3) := by decide +kernel
theorem d_Ex_serve_9 : decode b_Ex_serve 9 = .ok (.aload_n 2, 1) := by decide +kernel
theorem d_Ex_serve_10 : decode b_Ex_serve 10 = .ok (.invokevirtual 185, 3) := by decide +kernel
theorem d_Ex_serve_13 : decode b_Ex_serve 13 = .ok (.istore_n 3, 1) := by decide +kernel
theorem d_Ex_serve_14 : decode b_Ex_serve 14 = .ok (.aload_n 2, 1) := by decide +kernel
theorem d_Ex_serve_15 : decode b_Ex_serve 15 = .ok (.dup, 1) := by decide +kernel
theorem d_Ex_serve_16 : decode b_Ex_serve 16 = .ok (.getfield 189, 3) := by decide +kernel
theorem d_Ex_serve_19 : decode b_Ex_serve 19 = .ok (.iconst 1, 1) := by decide +kernel
theorem d_Ex_serve_20 : decode b_Ex_serve 20 = .ok (.iadd, 1) := by decide +kernel
theorem d_Ex_serve_21 : decode b_Ex_serve 21 = .ok (.putfield 189, 3) := by decide +kernel
theorem d_Ex_serve_24 : decode b_Ex_serve 24 = .ok (.iload_n 3, 1) := by decide +kernel
theorem d_Ex_serve_25 : decode b_Ex_serve 25 = .ok (.ifCond .ne 16, 3) := by decide +kernel
theorem d_Ex_serve_28 : decode b_Ex_serve 28 = .ok (.aload_n 2, 1) := by decide +kernel
theorem d_Ex_serve_29 : decode b_Ex_serve 29 = .ok (.getfield 189, 3) := by decide +kernel
theorem d_Ex_serve_32 : decode b_Ex_serve 32 = .ok (.aload_n 1, 1) := by decide +kernel
theorem d_Ex_serve_33 : decode b_Ex_serve 33 = .ok (.getfield 192, 3) := by decide +kernel
theorem d_Ex_serve_36 : decode b_Ex_serve 36 = .ok (.if_icmp .lt 5, 3) := by decide +kernel
theorem d_Ex_serve_39 : decode b_Ex_serve 39 = .ok (.iconst 3, 1) := by decide +kernel
theorem d_Ex_serve_40 : decode b_Ex_serve 40 = .ok (.istore_n 3, 1) := by decide +kernel
theorem d_Ex_serve_41 : decode b_Ex_serve 41 = .ok (.iload_n 3, 1) := by decide +kernel
theorem d_Ex_serve_42 : decode b_Ex_serve 42 = .ok (.ifCond .eq 14, 3) := by decide +kernel
theorem d_Ex_serve_45 : decode b_Ex_serve 45 = .ok (.aload_n 1, 1) := by decide +kernel
theorem d_Ex_serve_46 : decode b_Ex_serve 46 = .ok (.iload_n 3, 1) := by decide +kernel
theorem d_Ex_serve_47 : decode b_Ex_serve 47 = .ok (.aload_n 0, 1) := by decide +kernel
theorem d_Ex_serve_48 : decode b_Ex_serve 48 = .ok (.getfield 49, 3) := by decide +kernel
theorem d_Ex_serve_51 : decode b_Ex_serve 51 = .ok (.iconst 1, 1) := by decide +kernel
theorem d_Ex_serve_52 : decode b_Ex_serve 52 = .ok (.iadd, 1) := by decide +kernel
theorem d_Ex_serve_53 : decode b_Ex_serve 53 = .ok (.invokevirtual 195, 3) := by decide +kernel
theorem d_Ex_serve_56 : decode b_Ex_serve 56 = .ok (.iload_n 3, 1) := by decide +kernel
theorem d_Ex_serve_57 : decode b_Ex_serve 57 = .ok (.ireturn, 1) := by decide +kernel
theorem d_Mc_step_0 : decode b_Mc_step 0 = .ok (.aload_n 0, 1) := by decide +kernel
theorem d_Mc_step_1 : decode b_Mc_step 1 = .ok (.getfield 9, 3) := by decide +kernel
theorem d_Mc_step_4 : decode b_Mc_step 4 = .ok (.aload_n 1, 1) := by decide +kernel
theorem d_Mc_step_5 : decode b_Mc_step 5 = .ok (.getfield 18, 3) := by decide +kernel
theorem d_Mc_step_8 : decode b_Mc_step 8 = .ok (.iaload, 1) := by decide +kernel
theorem d_Mc_step_9 : decode b_Mc_step 9 = .ok (.istore_n 2, 1) := by decide +kernel
theorem d_Mc_step_10 : decode b_Mc_step 10 = .ok (.aload_n 1, 1) := by decide +kernel
theorem d_Mc_step_11 : decode b_Mc_step 11 = .ok (.aload_n 1, 1) := by decide +kernel
theorem d_Mc_step_12 : decode b_Mc_step 12 = .ok (.getfield 18, 3) := by decide +kernel
theorem d_Mc_step_15 : decode b_Mc_step 15 = .ok (.iconst 1, 1) := by decide +kernel
theorem d_Mc_step_16 : decode b_Mc_step 16 = .ok (.iadd, 1) := by decide +kernel
theorem d_Mc_step_17 : decode b_Mc_step 17 = .ok (.invokestatic 24, 3) := by decide +kernel
theorem d_Mc_step_20 : decode b_Mc_step 20 = .ok (.putfield 18, 3) := by decide +kernel
theorem d_Mc_step_23 : decode b_Mc_step 23 = .ok (.iload_n 2, 1) := by decide +kernel
theorem d_Mc_step_24 : decode b_Mc_step 24 = .ok (.iconst 4, 1) := by decide +kernel
theorem d_Mc_step_25 : decode b_Mc_step 25 = .ok (.ishr, 1) := by decide +kernel
theorem d_Mc_step_26 : decode b_Mc_step 26 = .ok (.iconst 3, 1) := by decide +kernel
theorem d_Mc_step_27 : decode b_Mc_step 27 = .ok (.iand, 1) := by decide +kernel
theorem d_Mc_step_28 : decode b_Mc_step 28 = .ok (.istore_n 3, 1) := by decide +kernel
theorem d_Mc_step_29 : decode b_Mc_step 29 = .ok (.iload_n 2, 1) := by decide +kernel
theorem d_Mc_step_30 : decode b_Mc_step 30 = .ok (.bipush 6, 2) := by decide +kernel
theorem d_Mc_step_32 : decode b_Mc_step 32 = .ok (.ishr, 1) := by decide +kernel
theorem d_Mc_step_33 : decode b_Mc_step 33 = .ok (.iconst 3, 1) := by decide +kernel
theorem d_Mc_step_34 : decode b_Mc_step 34 = .ok (.iand, 1) := by decide +kernel
theorem d_Mc_step_35 : decode b_Mc_step 35 = .ok (.istore 4, 2) := by decide +kernel
theorem d_Mc_step_37 : decode b_Mc_step 37 = .ok (.iload_n 2, 1) := by decide +kernel
theorem d_Mc_step_38 : decode b_Mc_step 38 = .ok (.bipush 8, 2) := by decide +kernel
theorem d_Mc_step_40 : decode b_Mc_step 40 = .ok (.ishr, 1) := by decide +kernel
theorem d_Mc_step_41 : decode b_Mc_step 41 = .ok (.istore 5, 2) := by decide +kernel
theorem d_Mc_step_43 : decode b_Mc_step 43 = .ok (.aload_n 1, 1) := by decide +kernel
theorem d_Mc_step_44 : decode b_Mc_step 44 = .ok (.getfield 28, 3) := by decide +kernel
theorem d_Mc_step_47 : decode b_Mc_step 47 = .ok (.astore 6, 2) := by decide +kernel
theorem d_Mc_step_49 : decode b_Mc_step 49 = .ok (.iload_n 2, 1) := by decide +kernel
theorem d_Mc_step_50 : decode b_Mc_step 50 = .ok (.bipush 15, 2) := by decide +kernel
theorem d_Mc_step_52 : decode b_Mc_step 52 = .ok (.iand, 1) := by decide +kernel
theorem d_Mc_step_53 : decode b_Mc_step 53 = .ok (.tableswitch 219 0 10 #[59, 61, 70, 85, 100, 115, 135, 155, 176, 197, 207], 59) := by decide +kernel
theorem d_Mc_step_112 : decode b_Mc_step 112 = .ok (.iconst 1, 1) := by decide +kernel
theorem d_Mc_step_113 : decode b_Mc_step 113 = .ok (.ireturn, 1) := by decide +kernel
theorem d_Mc_step_114 : decode b_Mc_step 114 = .ok (.aload 6, 2) := by decide +kernel
theorem d_Mc_step_116 : decode b_Mc_step 116 = .ok (.iload_n 3, 1) := by decide +kernel
theorem d_Mc_step_117 : decode b_Mc_step 117 = .ok (.iload 5, 2) := by decide +kernel
theorem d_Mc_step_119 : decode b_Mc_step 119 = .ok (.iastore, 1) := by decide +kernel
theorem d_Mc_step_120 : decode b_Mc_step 120 = .ok (.goto 154, 3) := by decide +kernel
theorem d_Mc_step_123 : decode b_Mc_step 123 = .ok (.aload 6, 2) := by decide +kernel
theorem d_Mc_step_125 : decode b_Mc_step 125 = .ok (.iload_n 3, 1) := by decide +kernel
theorem d_Mc_step_126 : decode b_Mc_step 126 = .ok (.dup2, 1) := by decide +kernel
theorem d_Mc_step_127 : decode b_Mc_step 127 = .ok (.iaload, 1) := by decide +kernel
theorem d_Mc_step_128 : decode b_Mc_step 128 = .ok (.aload 6, 2) := by decide +kernel
theorem d_Mc_step_130 : decode b_Mc_step 130 = .ok (.iload 4, 2) := by decide +kernel
theorem d_Mc_step_132 : decode b_Mc_step 132 = .ok (.iaload, 1) := by decide +kernel
theorem d_Mc_step_133 : decode b_Mc_step 133 = .ok (.iadd, 1) := by decide +kernel
theorem d_Mc_step_134 : decode b_Mc_step 134 = .ok (.iastore, 1) := by decide +kernel
theorem d_Mc_step_135 : decode b_Mc_step 135 = .ok (.goto 139, 3) := by decide +kernel
theorem d_Mc_step_138 : decode b_Mc_step 138 = .ok (.aload 6, 2) := by decide +kernel
theorem d_Mc_step_140 : decode b_Mc_step 140 = .ok (.iload_n 3, 1) := by decide +kernel
theorem d_Mc_step_141 : decode b_Mc_step 141 = .ok (.dup2, 1) := by decide +kernel
theorem d_Mc_step_142 : decode b_Mc_step 142 = .ok (.iaload, 1) := by decide +kernel
theorem d_Mc_step_143 : decode b_Mc_step 143 = .ok (.aload 6, 2) := by decide +kernel
theorem d_Mc_step_145 : decode b_Mc_step 145 = .ok (.iload 4, 2) := by decide +kernel
theorem d_Mc_step_147 : decode b_Mc_step 147 = .ok (.iaload, 1) := by decide +kernel
theorem d_Mc_step_148 : decode b_Mc_step 148 = .ok (.isub, 1) := by decide +kernel
theorem d_Mc_step_149 : decode b_Mc_step 149 = .ok (.iastore, 1) := by decide +kernel
theorem d_Mc_step_150 : decode b_Mc_step 150 = .ok (.goto 124, 3) := by decide +kernel
theorem d_Mc_step_153 : decode b_Mc_step 153 = .ok (.aload 6, 2) := by decide +kernel
theorem d_Mc_step_155 : decode b_Mc_step 155 = .ok (.iload_n 3, 1) := by decide +kernel
theorem d_Mc_step_156 : decode b_Mc_step 156 = .ok (.dup2, 1) := by decide +kernel
theorem d_Mc_step_157 : decode b_Mc_step 157 = .ok (.iaload, 1) := by decide +kernel
theorem d_Mc_step_158 : decode b_Mc_step 158 = .ok (.aload 6, 2) := by decide +kernel
theorem d_Mc_step_160 : decode b_Mc_step 160 = .ok (.iload 4, 2) := by decide +kernel
theorem d_Mc_step_162 : decode b_Mc_step 162 = .ok (.iaload, 1) := by decide +kernel
theorem d_Mc_step_163 : decode b_Mc_step 163 = .ok (.imul, 1) := by decide +kernel
theorem d_Mc_step_164 : decode b_Mc_step 164 = .ok (.iastore, 1) := by decide +kernel
theorem d_Mc_step_165 : decode b_Mc_step 165 = .ok (.goto 109, 3) := by decide +kernel
theorem d_Mc_step_168 : decode b_Mc_step 168 = .ok (.aload 6, 2) := by decide +kernel
theorem d_Mc_step_170 : decode b_Mc_step 170 = .ok (.iload_n 3, 1) := by decide +kernel
theorem d_Mc_step_171 : decode b_Mc_step 171 = .ok (.aload_n 0, 1) := by decide +kernel
theorem d_Mc_step_172 : decode b_Mc_step 172 = .ok (.getfield 15, 3) := by decide +kernel
theorem d_Mc_step_175 : decode b_Mc_step 175 = .ok (.aload 6, 2) := by decide +kernel
theorem d_Mc_step_177 : decode b_Mc_step 177 = .ok (.iload 4, 2) := by decide +kernel
theorem d_Mc_step_179 : decode b_Mc_step 179 = .ok (.iaload, 1) := by decide +kernel
theorem d_Mc_step_180 : decode b_Mc_step 180 = .ok (.bipush 15, 2) := by decide +kernel
theorem d_Mc_step_182 : decode b_Mc_step 182 = .ok (.iand, 1) := by decide +kernel
theorem d_Mc_step_183 : decode b_Mc_step 183 = .ok (.iaload, 1) := by decide +kernel
theorem d_Mc_step_184 : decode b_Mc_step 184 = .ok (.iastore, 1) := by decide +kernel
theorem d_Mc_step_185 : decode b_Mc_step 185 = .ok (.goto 89, 3) := by decide +kernel
theorem d_Mc_step_188 : decode b_Mc_step 188 = .ok (.aload_n 0, 1) := by decide +kernel
theorem d_Mc_step_189 : decode b_Mc_step 189 = .ok (.getfield 15, 3) := by decide +kernel
theorem d_Mc_step_192 : decode b_Mc_step 192 = .ok (.aload 6, 2) := by decide +kernel
theorem d_Mc_step_194 : decode b_Mc_step 194 = .ok (.iload 4, 2) := by decide +kernel
theorem d_Mc_step_196 : decode b_Mc_step 196 = .ok (.iaload, 1) := by decide +kernel
theorem d_Mc_step_197 : decode b_Mc_step 197 = .ok (.bipush 15, 2) := by decide +kernel
theorem d_Mc_step_199 : decode b_Mc_step 199 = .ok (.iand, 1) := by decide +kernel
theorem d_Mc_step_200 : decode b_Mc_step 200 = .ok (.aload 6, 2) := by decide +kernel
theorem d_Mc_step_202 : decode b_Mc_step 202 = .ok (.iload_n 3, 1) := by decide +kernel
theorem d_Mc_step_203 : decode b_Mc_step 203 = .ok (.iaload, 1) := by decide +kernel
theorem d_Mc_step_204 : decode b_Mc_step 204 = .ok (.iastore, 1) := by decide +kernel
theorem d_Mc_step_205 : decode b_Mc_step 205 = .ok (.goto 69, 3) := by decide +kernel
theorem d_Mc_step_208 : decode b_Mc_step 208 = .ok (.aload 6, 2) := by decide +kernel
theorem d_Mc_step_210 : decode b_Mc_step 210 = .ok (.iload_n 3, 1) := by decide +kernel
theorem d_Mc_step_211 : decode b_Mc_step 211 = .ok (.iaload, 1) := by decide +kernel
theorem d_Mc_step_212 : decode b_Mc_step 212 = .ok (.ifCond .ne 7, 3) := by decide +kernel
theorem d_Mc_step_215 : decode b_Mc_step 215 = .ok (.iconst 1, 1) := by decide +kernel
theorem d_Mc_step_216 : decode b_Mc_step 216 = .ok (.goto 4, 3) := by decide +kernel
theorem d_Mc_step_219 : decode b_Mc_step 219 = .ok (.iconst 0, 1) := by decide +kernel
theorem d_Mc_step_220 : decode b_Mc_step 220 = .ok (.iload 5, 2) := by decide +kernel
theorem d_Mc_step_222 : decode b_Mc_step 222 = .ok (.aload_n 1, 1) := by decide +kernel
theorem d_Mc_step_223 : decode b_Mc_step 223 = .ok (.invokestatic 31, 3) := by decide +kernel
theorem d_Mc_step_226 : decode b_Mc_step 226 = .ok (.goto 48, 3) := by decide +kernel
theorem d_Mc_step_229 : decode b_Mc_step 229 = .ok (.aload 6, 2) := by decide +kernel
theorem d_Mc_step_231 : decode b_Mc_step 231 = .ok (.iload_n 3, 1) := by decide +kernel
theorem d_Mc_step_232 : decode b_Mc_step 232 = .ok (.iaload, 1) := by decide +kernel
theorem d_Mc_step_233 : decode b_Mc_step 233 = .ok (.ifCond .ge 7, 3) := by decide +kernel
theorem d_Mc_step_236 : decode b_Mc_step 236 = .ok (.iconst 1, 1) := by decide +kernel
theorem d_Mc_step_237 : decode b_Mc_step 237 = .ok (.goto 4, 3) := by decide +kernel
theorem d_Mc_step_240 : decode b_Mc_step 240 = .ok (.iconst 0, 1) := by decide +kernel
theorem d_Mc_step_241 : decode b_Mc_step 241 = .ok (.iload 5, 2) := by decide +kernel
theorem d_Mc_step_243 : decode b_Mc_step 243 = .ok (.aload_n 1, 1) := by decide +kernel
theorem d_Mc_step_244 : decode b_Mc_step 244 = .ok (.invokestatic 31, 3) := by decide +kernel
theorem d_Mc_step_247 : decode b_Mc_step 247 = .ok (.goto 27, 3) := by decide +kernel
theorem d_Mc_step_250 : decode b_Mc_step 250 = .ok (.iconst 1, 1) := by decide +kernel
theorem d_Mc_step_251 : decode b_Mc_step 251 = .ok (.iload 5, 2) := by decide +kernel
theorem d_Mc_step_253 : decode b_Mc_step 253 = .ok (.aload_n 1, 1) := by decide +kernel
theorem d_Mc_step_254 : decode b_Mc_step 254 = .ok (.invokestatic 31, 3) := by decide +kernel
theorem d_Mc_step_257 : decode b_Mc_step 257 = .ok (.goto 17, 3) := by decide +kernel
theorem d_Mc_step_260 : decode b_Mc_step 260 = .ok (.aload 6, 2) := by decide +kernel
theorem d_Mc_step_262 : decode b_Mc_step 262 = .ok (.iload_n 3, 1) := by decide +kernel
theorem d_Mc_step_263 : decode b_Mc_step 263 = .ok (.dup2, 1) := by decide +kernel
theorem d_Mc_step_264 : decode b_Mc_step 264 = .ok (.iaload, 1) := by decide +kernel
theorem d_Mc_step_265 : decode b_Mc_step 265 = .ok (.iload 5, 2) := by decide +kernel
theorem d_Mc_step_267 : decode b_Mc_step 267 = .ok (.iadd, 1) := by decide +kernel
theorem d_Mc_step_268 : decode b_Mc_step 268 = .ok (.iastore, 1) := by decide +kernel
theorem d_Mc_step_269 : decode b_Mc_step 269 = .ok (.goto 5, 3) := by decide +kernel
theorem d_Mc_step_272 : decode b_Mc_step 272 = .ok (.iconst 2, 1) := by decide +kernel
theorem d_Mc_step_273 : decode b_Mc_step 273 = .ok (.ireturn, 1) := by decide +kernel
theorem d_Mc_step_274 : decode b_Mc_step 274 = .ok (.iconst 0, 1) := by decide +kernel
theorem d_Mc_step_275 : decode b_Mc_step 275 = .ok (.ireturn, 1) := by decide +kernel
theorem d_Mc_placeOf_0 : decode b_Mc_placeOf 0 = .ok (.iload_n 0, 1) := by decide +kernel
theorem d_Mc_placeOf_1 : decode b_Mc_placeOf 1 = .ok (.bipush 63, 2) := by decide +kernel
theorem d_Mc_placeOf_3 : decode b_Mc_placeOf 3 = .ok (.iand, 1) := by decide +kernel
theorem d_Mc_placeOf_4 : decode b_Mc_placeOf 4 = .ok (.ireturn, 1) := by decide +kernel
theorem d_Mc_jumpIf_0 : decode b_Mc_jumpIf 0 = .ok (.iload_n 0, 1) := by decide +kernel
theorem d_Mc_jumpIf_1 : decode b_Mc_jumpIf 1 = .ok (.ifCond .eq 11, 3) := by decide +kernel
theorem d_Mc_jumpIf_4 : decode b_Mc_jumpIf 4 = .ok (.aload_n 2, 1) := by decide +kernel
theorem d_Mc_jumpIf_5 : decode b_Mc_jumpIf 5 = .ok (.iload_n 1, 1) := by decide +kernel
theorem d_Mc_jumpIf_6 : decode b_Mc_jumpIf 6 = .ok (.invokestatic 24, 3) := by decide +kernel
theorem d_Mc_jumpIf_9 : decode b_Mc_jumpIf 9 = .ok (.putfield 18, 3) := by decide +kernel
theorem d_Mc_jumpIf_12 : decode b_Mc_jumpIf 12 = .ok (.return_, 1) := by decide +kernel
theorem d_Tk_endJob_0 : decode b_Tk_endJob 0 = .ok (.aload_n 0, 1) := by decide +kernel
theorem d_Tk_endJob_1 : decode b_Tk_endJob 1 = .ok (.getfield 18, 3) := by decide +kernel
theorem d_Tk_endJob_4 : decode b_Tk_endJob 4 = .ok (.iconst 0, 1) := by decide +kernel
theorem d_Tk_endJob_5 : decode b_Tk_endJob 5 = .ok (.putfield 29, 3) := by decide +kernel
theorem d_Tk_endJob_8 : decode b_Tk_endJob 8 = .ok (.aload_n 0, 1) := by decide +kernel
theorem d_Tk_endJob_9 : decode b_Tk_endJob 9 = .ok (.getfield 22, 3) := by decide +kernel
theorem d_Tk_endJob_12 : decode b_Tk_endJob 12 = .ok (.iload_n 1, 1) := by decide +kernel
theorem d_Tk_endJob_13 : decode b_Tk_endJob 13 = .ok (.iconst 1, 1) := by decide +kernel
theorem d_Tk_endJob_14 : decode b_Tk_endJob 14 = .ok (.isub, 1) := by decide +kernel
theorem d_Tk_endJob_15 : decode b_Tk_endJob 15 = .ok (.dup2, 1) := by decide +kernel
theorem d_Tk_endJob_16 : decode b_Tk_endJob 16 = .ok (.iaload, 1) := by decide +kernel
theorem d_Tk_endJob_17 : decode b_Tk_endJob 17 = .ok (.iconst 1, 1) := by decide +kernel
theorem d_Tk_endJob_18 : decode b_Tk_endJob 18 = .ok (.iadd, 1) := by decide +kernel
theorem d_Tk_endJob_19 : decode b_Tk_endJob 19 = .ok (.iastore, 1) := by decide +kernel
theorem d_Tk_endJob_20 : decode b_Tk_endJob 20 = .ok (.iload_n 1, 1) := by decide +kernel
theorem d_Tk_endJob_21 : decode b_Tk_endJob 21 = .ok (.iconst 1, 1) := by decide +kernel
theorem d_Tk_endJob_22 : decode b_Tk_endJob 22 = .ok (.if_icmp .ne 27, 3) := by decide +kernel
theorem d_Tk_endJob_25 : decode b_Tk_endJob 25 = .ok (.aload_n 0, 1) := by decide +kernel
theorem d_Tk_endJob_26 : decode b_Tk_endJob 26 = .ok (.getfield 22, 3) := by decide +kernel
theorem d_Tk_endJob_29 : decode b_Tk_endJob 29 = .ok (.iconst 3, 1) := by decide +kernel
theorem d_Tk_endJob_30 : decode b_Tk_endJob 30 = .ok (.aload_n 0, 1) := by decide +kernel
theorem d_Tk_endJob_31 : decode b_Tk_endJob 31 = .ok (.getfield 22, 3) := by decide +kernel
theorem d_Tk_endJob_34 : decode b_Tk_endJob 34 = .ok (.iconst 3, 1) := by decide +kernel
theorem d_Tk_endJob_35 : decode b_Tk_endJob 35 = .ok (.iaload, 1) := by decide +kernel
theorem d_Tk_endJob_36 : decode b_Tk_endJob 36 = .ok (.iload_n 2, 1) := by decide +kernel
theorem d_Tk_endJob_37 : decode b_Tk_endJob 37 = .ok (.aload_n 0, 1) := by decide +kernel
theorem d_Tk_endJob_38 : decode b_Tk_endJob 38 = .ok (.getfield 18, 3) := by decide +kernel
theorem d_Tk_endJob_41 : decode b_Tk_endJob 41 = .ok (.getfield 39, 3) := by decide +kernel
theorem d_Tk_endJob_44 : decode b_Tk_endJob 44 = .ok (.isub, 1) := by decide +kernel
theorem d_Tk_endJob_45 : decode b_Tk_endJob 45 = .ok (.invokestatic 42, 3) := by decide +kernel
theorem d_Tk_endJob_48 : decode b_Tk_endJob 48 = .ok (.iastore, 1) := by decide +kernel
theorem d_Tk_endJob_49 : decode b_Tk_endJob 49 = .ok (.return_, 1) := by decide +kernel
theorem d_Ex_ticks_0 : decode b_Ex_ticks 0 = .ok (.aload_n 0, 1) := by decide +kernel
theorem d_Ex_ticks_1 : decode b_Ex_ticks 1 = .ok (.invokevirtual 134, 3) := by decide +kernel
theorem d_Ex_ticks_4 : decode b_Ex_ticks 4 = .ok (.iload_n 1, 1) := by decide +kernel
theorem d_Ex_ticks_5 : decode b_Ex_ticks 5 = .ok (.iconst 1, 1) := by decide +kernel
theorem d_Ex_ticks_6 : decode b_Ex_ticks 6 = .ok (.if_icmp .lt 10, 3) := by decide +kernel
theorem d_Ex_ticks_9 : decode b_Ex_ticks 9 = .ok (.iload_n 1, 1) := by decide +kernel
theorem d_Ex_ticks_10 : decode b_Ex_ticks 10 = .ok (.sipush 500, 3) := by decide +kernel
theorem d_Ex_ticks_13 : decode b_Ex_ticks 13 = .ok (.if_icmp .le 13, 3) := by decide +kernel
theorem d_Ex_ticks_16 : decode b_Ex_ticks 16 = .ok (.new 76, 3) := by decide +kernel
theorem d_Ex_ticks_19 : decode b_Ex_ticks 19 = .ok (.dup, 1) := by decide +kernel
theorem d_Ex_ticks_20 : decode b_Ex_ticks 20 = .ok (.ldc 140, 2) := by decide +kernel
theorem d_Ex_ticks_22 : decode b_Ex_ticks 22 = .ok (.invokespecial 80, 3) := by decide +kernel
theorem d_Ex_ticks_25 : decode b_Ex_ticks 25 = .ok (.athrow, 1) := by decide +kernel
theorem d_Ex_ticks_26 : decode b_Ex_ticks 26 = .ok (.iconst 0, 1) := by decide +kernel
theorem d_Ex_ticks_27 : decode b_Ex_ticks 27 = .ok (.istore_n 2, 1) := by decide +kernel
theorem d_Ex_ticks_28 : decode b_Ex_ticks 28 = .ok (.iconst 0, 1) := by decide +kernel
theorem d_Ex_ticks_29 : decode b_Ex_ticks 29 = .ok (.istore_n 3, 1) := by decide +kernel
theorem d_Ex_ticks_30 : decode b_Ex_ticks 30 = .ok (.iload_n 3, 1) := by decide +kernel
theorem d_Ex_ticks_31 : decode b_Ex_ticks 31 = .ok (.iload_n 1, 1) := by decide +kernel
theorem d_Ex_ticks_32 : decode b_Ex_ticks 32 = .ok (.if_icmp .ge 20, 3) := by decide +kernel
theorem d_Ex_ticks_35 : decode b_Ex_ticks 35 = .ok (.aload_n 0, 1) := by decide +kernel
theorem d_Ex_ticks_36 : decode b_Ex_ticks 36 = .ok (.invokevirtual 137, 3) := by decide +kernel
theorem d_Ex_ticks_39 : decode b_Ex_ticks 39 = .ok (.iconst (-1), 1) := by decide +kernel
theorem d_Ex_ticks_40 : decode b_Ex_ticks 40 = .ok (.if_icmp .eq 6, 3) := by decide +kernel
theorem d_Ex_ticks_43 : decode b_Ex_ticks 43 = .ok (.iinc 2 1, 3) := by decide +kernel
theorem d_Ex_ticks_46 : decode b_Ex_ticks 46 = .ok (.iinc 3 1, 3) := by decide +kernel
theorem d_Ex_ticks_49 : decode b_Ex_ticks 49 = .ok (.goto (-19), 3) := by decide +kernel
theorem d_Ex_ticks_52 : decode b_Ex_ticks 52 = .ok (.iload_n 2, 1) := by decide +kernel
theorem d_Ex_ticks_53 : decode b_Ex_ticks 53 = .ok (.ireturn, 1) := by decide +kernel
theorem d_Ex_count_0 : decode b_Ex_count 0 = .ok (.iload_n 1, 1) := by decide +kernel
theorem d_Ex_count_1 : decode b_Ex_count 1 = .ok (.aload_n 0, 1) := by decide +kernel
theorem d_Ex_count_2 : decode b_Ex_count 2 = .ok (.getfield 10, 3) := by decide +kernel
theorem d_Ex_count_5 : decode b_Ex_count 5 = .ok (.getfield 62, 3) := by decide +kernel
theorem d_Ex_count_8 : decode b_Ex_count 8 = .ok (.invokestatic 55, 3) := by decide +kernel
theorem d_Ex_count_11 : decode b_Ex_count 11 = .ok (.iload_n 2, 1) := by decide +kernel
theorem d_Ex_count_12 : decode b_Ex_count 12 = .ok (.iconst 4, 1) := by decide +kernel
theorem d_Ex_count_13 : decode b_Ex_count 13 = .ok (.invokestatic 55, 3) := by decide +kernel
theorem d_Ex_count_16 : decode b_Ex_count 16 = .ok (.aload_n 0, 1) := by decide +kernel
theorem d_Ex_count_17 : decode b_Ex_count 17 = .ok (.getfield 10, 3) := by decide +kernel
theorem d_Ex_count_20 : decode b_Ex_count 20 = .ok (.getfield 85, 3) := by decide +kernel
theorem d_Ex_count_23 : decode b_Ex_count 23 = .ok (.iload_n 1, 1) := by decide +kernel
theorem d_Ex_count_24 : decode b_Ex_count 24 = .ok (.aaload, 1) := by decide +kernel
theorem d_Ex_count_25 : decode b_Ex_count 25 = .ok (.getfield 142, 3) := by decide +kernel
theorem d_Ex_count_28 : decode b_Ex_count 28 = .ok (.iload_n 2, 1) := by decide +kernel
theorem d_Ex_count_29 : decode b_Ex_count 29 = .ok (.iaload, 1) := by decide +kernel
theorem d_Ex_count_30 : decode b_Ex_count 30 = .ok (.ireturn, 1) := by decide +kernel
theorem d_Ex_shared_0 : decode b_Ex_shared 0 = .ok (.iload_n 1, 1) := by decide +kernel
theorem d_Ex_shared_1 : decode b_Ex_shared 1 = .ok (.bipush 16, 2) := by decide +kernel
theorem d_Ex_shared_3 : decode b_Ex_shared 3 = .ok (.invokestatic 55, 3) := by decide +kernel
theorem d_Ex_shared_6 : decode b_Ex_shared 6 = .ok (.aload_n 0, 1) := by decide +kernel
theorem d_Ex_shared_7 : decode b_Ex_shared 7 = .ok (.getfield 33, 3) := by decide +kernel
theorem d_Ex_shared_10 : decode b_Ex_shared 10 = .ok (.getfield 145, 3) := by decide +kernel
theorem d_Ex_shared_13 : decode b_Ex_shared 13 = .ok (.iload_n 1, 1) := by decide +kernel
theorem d_Ex_shared_14 : decode b_Ex_shared 14 = .ok (.iaload, 1) := by decide +kernel
theorem d_Ex_shared_15 : decode b_Ex_shared 15 = .ok (.ireturn, 1) := by decide +kernel
