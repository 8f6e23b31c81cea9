theorem d_Lw_load_0 : decode b_Lw_load 0 = .ok (.aload_n 0, 1) := by decide +kernel
theorem d_Lw_load_1 : decode b_Lw_load 1 = .ok (.iload_n 1, 1) := by decide +kernel
theorem d_Lw_load_2 : decode b_Lw_load 2 = .ok (.iload_n 2, 1) := by decide +kernel
theorem d_Lw_load_3 : decode b_Lw_load 3 = .ok (.invokevirtual 7, 3) := by decide +kernel
theorem d_Lw_load_6 : decode b_Lw_load 6 = .ok (.goto 9, 3) := by decide +kernel
theorem d_Lw_load_9 : decode b_Lw_load 9 = .ok (.astore_n 3, 1) := by decide +kernel
theorem d_Lw_load_10 : decode b_Lw_load 10 = .ok (.iconst 1, 1) := by decide +kernel
theorem d_Lw_load_11 : decode b_Lw_load 11 = .ok (.ireturn, 1) := by decide +kernel
theorem d_Lw_load_12 : decode b_Lw_load 12 = .ok (.astore_n 3, 1) := by decide +kernel
theorem d_Lw_load_13 : decode b_Lw_load 13 = .ok (.iconst 2, 1) := by decide +kernel
theorem d_Lw_load_14 : decode b_Lw_load 14 = .ok (.ireturn, 1) := by decide +kernel
theorem d_Lw_load_15 : decode b_Lw_load 15 = .ok (.iconst 0, 1) := by decide +kernel
theorem d_Lw_load_16 : decode b_Lw_load 16 = .ok (.ireturn, 1) := by decide +kernel
theorem d_Lw_task_0 : decode b_Lw_task 0 = .ok (.aload 5, 2) := by decide +kernel
theorem d_Lw_task_2 : decode b_Lw_task 2 = .ok (.iconst 0, 1) := by decide +kernel
theorem d_Lw_task_3 : decode b_Lw_task 3 = .ok (.aload_n 0, 1) := by decide +kernel
theorem d_Lw_task_4 : decode b_Lw_task 4 = .ok (.iload_n 1, 1) := by decide +kernel
theorem d_Lw_task_5 : decode b_Lw_task 5 = .ok (.iload_n 2, 1) := by decide +kernel
theorem d_Lw_task_6 : decode b_Lw_task 6 = .ok (.iload_n 3, 1) := by decide +kernel
theorem d_Lw_task_7 : decode b_Lw_task 7 = .ok (.iload 4, 2) := by decide +kernel
theorem d_Lw_task_9 : decode b_Lw_task 9 = .ok (.invokevirtual 17, 3) := by decide +kernel
theorem d_Lw_task_12 : decode b_Lw_task 12 = .ok (.i2l, 1) := by decide +kernel
theorem d_Lw_task_13 : decode b_Lw_task 13 = .ok (.lastore, 1) := by decide +kernel
theorem d_Lw_task_14 : decode b_Lw_task 14 = .ok (.goto 11, 3) := by decide +kernel
theorem d_Lw_task_17 : decode b_Lw_task 17 = .ok (.astore 6, 2) := by decide +kernel
theorem d_Lw_task_19 : decode b_Lw_task 19 = .ok (.iconst 1, 1) := by decide +kernel
theorem d_Lw_task_20 : decode b_Lw_task 20 = .ok (.ireturn, 1) := by decide +kernel
theorem d_Lw_task_21 : decode b_Lw_task 21 = .ok (.astore 6, 2) := by decide +kernel
theorem d_Lw_task_23 : decode b_Lw_task 23 = .ok (.iconst 2, 1) := by decide +kernel
theorem d_Lw_task_24 : decode b_Lw_task 24 = .ok (.ireturn, 1) := by decide +kernel
theorem d_Lw_task_25 : decode b_Lw_task 25 = .ok (.iconst 0, 1) := by decide +kernel
theorem d_Lw_task_26 : decode b_Lw_task 26 = .ok (.ireturn, 1) := by decide +kernel
theorem d_Lw_entry_0 : decode b_Lw_entry 0 = .ok (.aload_n 0, 1) := by decide +kernel
theorem d_Lw_entry_1 : decode b_Lw_entry 1 = .ok (.iload_n 1, 1) := by decide +kernel
theorem d_Lw_entry_2 : decode b_Lw_entry 2 = .ok (.iload_n 2, 1) := by decide +kernel
theorem d_Lw_entry_3 : decode b_Lw_entry 3 = .ok (.invokevirtual 23, 3) := by decide +kernel
theorem d_Lw_entry_6 : decode b_Lw_entry 6 = .ok (.goto 9, 3) := by decide +kernel
theorem d_Lw_entry_9 : decode b_Lw_entry 9 = .ok (.astore_n 3, 1) := by decide +kernel
theorem d_Lw_entry_10 : decode b_Lw_entry 10 = .ok (.iconst 1, 1) := by decide +kernel
theorem d_Lw_entry_11 : decode b_Lw_entry 11 = .ok (.ireturn, 1) := by decide +kernel
theorem d_Lw_entry_12 : decode b_Lw_entry 12 = .ok (.astore_n 3, 1) := by decide +kernel
theorem d_Lw_entry_13 : decode b_Lw_entry 13 = .ok (.iconst 2, 1) := by decide +kernel
theorem d_Lw_entry_14 : decode b_Lw_entry 14 = .ok (.ireturn, 1) := by decide +kernel
theorem d_Lw_entry_15 : decode b_Lw_entry 15 = .ok (.iconst 0, 1) := by decide +kernel
theorem d_Lw_entry_16 : decode b_Lw_entry 16 = .ok (.ireturn, 1) := by decide +kernel
theorem d_Lw_clear_0 : decode b_Lw_clear 0 = .ok (.aload_n 0, 1) := by decide +kernel
theorem d_Lw_clear_1 : decode b_Lw_clear 1 = .ok (.invokevirtual 26, 3) := by decide +kernel
theorem d_Lw_clear_4 : decode b_Lw_clear 4 = .ok (.goto 6, 3) := by decide +kernel
theorem d_Lw_clear_7 : decode b_Lw_clear 7 = .ok (.astore_n 1, 1) := by decide +kernel
theorem d_Lw_clear_8 : decode b_Lw_clear 8 = .ok (.iconst 1, 1) := by decide +kernel
theorem d_Lw_clear_9 : decode b_Lw_clear 9 = .ok (.ireturn, 1) := by decide +kernel
theorem d_Lw_clear_10 : decode b_Lw_clear 10 = .ok (.iconst 0, 1) := by decide +kernel
theorem d_Lw_clear_11 : decode b_Lw_clear 11 = .ok (.ireturn, 1) := by decide +kernel
theorem d_Lw_synthesize_0 : decode b_Lw_synthesize 0 = .ok (.aload_n 1, 1) := by decide +kernel
theorem d_Lw_synthesize_1 : decode b_Lw_synthesize 1 = .ok (.iconst 0, 1) := by decide +kernel
theorem d_Lw_synthesize_2 : decode b_Lw_synthesize 2 = .ok (.aload_n 0, 1) := by decide +kernel
theorem d_Lw_synthesize_3 : decode b_Lw_synthesize 3 = .ok (.invokevirtual 29, 3) := by decide +kernel
theorem d_Lw_synthesize_6 : decode b_Lw_synthesize 6 = .ok (.i2l, 1) := by decide +kernel
theorem d_Lw_synthesize_7 : decode b_Lw_synthesize 7 = .ok (.lastore, 1) := by decide +kernel
theorem d_Lw_synthesize_8 : decode b_Lw_synthesize 8 = .ok (.goto 6, 3) := by decide +kernel
theorem d_Lw_synthesize_11 : decode b_Lw_synthesize 11 = .ok (.astore_n 2, 1) := by decide +kernel
theorem d_Lw_synthesize_12 : decode b_Lw_synthesize 12 = .ok (.iconst 1, 1) := by decide +kernel
theorem d_Lw_synthesize_13 : decode b_Lw_synthesize 13 = .ok (.ireturn, 1) := by decide +kernel
theorem d_Lw_synthesize_14 : decode b_Lw_synthesize 14 = .ok (.iconst 0, 1) := by decide +kernel
theorem d_Lw_synthesize_15 : decode b_Lw_synthesize 15 = .ok (.ireturn, 1) := by decide +kernel
theorem d_Lw_slot_0 : decode b_Lw_slot 0 = .ok (.aload_n 0, 1) := by decide +kernel
theorem d_Lw_slot_1 : decode b_Lw_slot 1 = .ok (.iload_n 1, 1) := by decide +kernel
theorem d_Lw_slot_2 : decode b_Lw_slot 2 = .ok (.iload_n 2, 1) := by decide +kernel
theorem d_Lw_slot_3 : decode b_Lw_slot 3 = .ok (.iload_n 3, 1) := by decide +kernel
theorem d_Lw_slot_4 : decode b_Lw_slot 4 = .ok (.iload 4, 2) := by decide +kernel
theorem d_Lw_slot_6 : decode b_Lw_slot 6 = .ok (.invokevirtual 33, 3) := by decide +kernel
theorem d_Lw_slot_9 : decode b_Lw_slot 9 = .ok (.goto 15, 3) := by decide +kernel
theorem d_Lw_slot_12 : decode b_Lw_slot 12 = .ok (.astore 5, 2) := by decide +kernel
theorem d_Lw_slot_14 : decode b_Lw_slot 14 = .ok (.iconst 1, 1) := by decide +kernel
theorem d_Lw_slot_15 : decode b_Lw_slot 15 = .ok (.ireturn, 1) := by decide +kernel
theorem d_Lw_slot_16 : decode b_Lw_slot 16 = .ok (.astore 5, 2) := by decide +kernel
theorem d_Lw_slot_18 : decode b_Lw_slot 18 = .ok (.iconst 2, 1) := by decide +kernel
theorem d_Lw_slot_19 : decode b_Lw_slot 19 = .ok (.ireturn, 1) := by decide +kernel
theorem d_Lw_slot_20 : decode b_Lw_slot 20 = .ok (.astore 5, 2) := by decide +kernel
theorem d_Lw_slot_22 : decode b_Lw_slot 22 = .ok (.iconst 3, 1) := by decide +kernel
theorem d_Lw_slot_23 : decode b_Lw_slot 23 = .ok (.ireturn, 1) := by decide +kernel
theorem d_Lw_slot_24 : decode b_Lw_slot 24 = .ok (.iconst 0, 1) := by decide +kernel
theorem d_Lw_slot_25 : decode b_Lw_slot 25 = .ok (.ireturn, 1) := by decide +kernel
theorem d_Lw_drop_0 : decode b_Lw_drop 0 = .ok (.aload_n 0, 1) := by decide +kernel
theorem d_Lw_drop_1 : decode b_Lw_drop 1 = .ok (.invokevirtual 37, 3) := by decide +kernel
theorem d_Lw_drop_4 : decode b_Lw_drop 4 = .ok (.goto 6, 3) := by decide +kernel
theorem d_Lw_drop_7 : decode b_Lw_drop 7 = .ok (.astore_n 1, 1) := by decide +kernel
theorem d_Lw_drop_8 : decode b_Lw_drop 8 = .ok (.iconst 1, 1) := by decide +kernel
theorem d_Lw_drop_9 : decode b_Lw_drop 9 = .ok (.ireturn, 1) := by decide +kernel
theorem d_Lw_drop_10 : decode b_Lw_drop 10 = .ok (.iconst 0, 1) := by decide +kernel
theorem d_Lw_drop_11 : decode b_Lw_drop 11 = .ok (.ireturn, 1) := by decide +kernel
theorem d_Lw_slotOf_0 : decode b_Lw_slotOf 0 = .ok (.aload_n 3, 1) := by decide +kernel
theorem d_Lw_slotOf_1 : decode b_Lw_slotOf 1 = .ok (.iconst 0, 1) := by decide +kernel
theorem d_Lw_slotOf_2 : decode b_Lw_slotOf 2 = .ok (.aload_n 0, 1) := by decide +kernel
theorem d_Lw_slotOf_3 : decode b_Lw_slotOf 3 = .ok (.iload_n 1, 1) := by decide +kernel
theorem d_Lw_slotOf_4 : decode b_Lw_slotOf 4 = .ok (.iload_n 2, 1) := by decide +kernel
theorem d_Lw_slotOf_5 : decode b_Lw_slotOf 5 = .ok (.invokevirtual 40, 3) := by decide +kernel
theorem d_Lw_slotOf_8 : decode b_Lw_slotOf 8 = .ok (.i2l, 1) := by decide +kernel
theorem d_Lw_slotOf_9 : decode b_Lw_slotOf 9 = .ok (.lastore, 1) := by decide +kernel
theorem d_Lw_slotOf_10 : decode b_Lw_slotOf 10 = .ok (.goto 7, 3) := by decide +kernel
theorem d_Lw_slotOf_13 : decode b_Lw_slotOf 13 = .ok (.astore 4, 2) := by decide +kernel
theorem d_Lw_slotOf_15 : decode b_Lw_slotOf 15 = .ok (.iconst 1, 1) := by decide +kernel
theorem d_Lw_slotOf_16 : decode b_Lw_slotOf 16 = .ok (.ireturn, 1) := by decide +kernel
theorem d_Lw_slotOf_17 : decode b_Lw_slotOf 17 = .ok (.iconst 0, 1) := by decide +kernel
theorem d_Lw_slotOf_18 : decode b_Lw_slotOf 18 = .ok (.ireturn, 1) := by decide +kernel
theorem d_Lw_check_0 : decode b_Lw_check 0 = .ok (.aload_n 1, 1) := by decide +kernel
theorem d_Lw_check_1 : decode b_Lw_check 1 = .ok (.iconst 0, 1) := by decide +kernel
theorem d_Lw_check_2 : decode b_Lw_check 2 = .ok (.aload_n 0, 1) := by decide +kernel
theorem d_Lw_check_3 : decode b_Lw_check 3 = .ok (.invokevirtual 44, 3) := by decide +kernel
theorem d_Lw_check_6 : decode b_Lw_check 6 = .ok (.ifCond .eq 7, 3) := by decide +kernel
theorem d_Lw_check_9 : decode b_Lw_check 9 = .ok (.lconst 1, 1) := by decide +kernel
theorem d_Lw_check_10 : decode b_Lw_check 10 = .ok (.goto 4, 3) := by decide +kernel
theorem d_Lw_check_13 : decode b_Lw_check 13 = .ok (.lconst 0, 1) := by decide +kernel
theorem d_Lw_check_14 : decode b_Lw_check 14 = .ok (.lastore, 1) := by decide +kernel
theorem d_Lw_check_15 : decode b_Lw_check 15 = .ok (.goto 6, 3) := by decide +kernel
theorem d_Lw_check_18 : decode b_Lw_check 18 = .ok (.astore_n 2, 1) := by decide +kernel
theorem d_Lw_check_19 : decode b_Lw_check 19 = .ok (.iconst 1, 1) := by decide +kernel
theorem d_Lw_check_20 : decode b_Lw_check 20 = .ok (.ireturn, 1) := by decide +kernel
theorem d_Lw_check_21 : decode b_Lw_check 21 = .ok (.iconst 0, 1) := by decide +kernel
theorem d_Lw_check_22 : decode b_Lw_check 22 = .ok (.ireturn, 1) := by decide +kernel
theorem d_Lw_stop_0 : decode b_Lw_stop 0 = .ok (.aload_n 0, 1) := by decide +kernel
theorem d_Lw_stop_1 : decode b_Lw_stop 1 = .ok (.invokevirtual 48, 3) := by decide +kernel
theorem d_Lw_stop_4 : decode b_Lw_stop 4 = .ok (.goto 6, 3) := by decide +kernel
theorem d_Lw_stop_7 : decode b_Lw_stop 7 = .ok (.astore_n 1, 1) := by decide +kernel
theorem d_Lw_stop_8 : decode b_Lw_stop 8 = .ok (.iconst 1, 1) := by decide +kernel
theorem d_Lw_stop_9 : decode b_Lw_stop 9 = .ok (.ireturn, 1) := by decide +kernel
theorem d_Lw_stop_10 : decode b_Lw_stop 10 = .ok (.iconst 0, 1) := by decide +kernel
theorem d_Lw_stop_11 : decode b_Lw_stop 11 = .ok (.ireturn, 1) := by decide +kernel
theorem d_Lw_tick_0 : decode b_Lw_tick 0 = .ok (.aload_n 1, 1) := by decide +kernel
theorem d_Lw_tick_1 : decode b_Lw_tick 1 = .ok (.iconst 0, 1) := by decide +kernel
theorem d_Lw_tick_2 : decode b_Lw_tick 2 = .ok (.aload_n 0, 1) := by decide +kernel
theorem d_Lw_tick_3 : decode b_Lw_tick 3 = .ok (.invokevirtual 51, 3) := by decide +kernel
theorem d_Lw_tick_6 : decode b_Lw_tick 6 = .ok (.i2l, 1) := by decide +kernel
theorem d_Lw_tick_7 : decode b_Lw_tick 7 = .ok (.lastore, 1) := by decide +kernel
theorem d_Lw_tick_8 : decode b_Lw_tick 8 = .ok (.goto 6, 3) := by decide +kernel
theorem d_Lw_tick_11 : decode b_Lw_tick 11 = .ok (.astore_n 2, 1) := by decide +kernel
theorem d_Lw_tick_12 : decode b_Lw_tick 12 = .ok (.iconst 1, 1) := by decide +kernel
theorem d_Lw_tick_13 : decode b_Lw_tick 13 = .ok (.ireturn, 1) := by decide +kernel
theorem d_Lw_tick_14 : decode b_Lw_tick 14 = .ok (.iconst 0, 1) := by decide +kernel
theorem d_Lw_tick_15 : decode b_Lw_tick 15 = .ok (.ireturn, 1) := by decide +kernel
theorem d_Lw_ticks_0 : decode b_Lw_ticks 0 = .ok (.aload_n 2, 1) := by decide +kernel
theorem d_Lw_ticks_1 : decode b_Lw_ticks 1 = .ok (.iconst 0, 1) := by decide +kernel
theorem d_Lw_ticks_2 : decode b_Lw_ticks 2 = .ok (.aload_n 0, 1) := by decide +kernel
theorem d_Lw_ticks_3 : decode b_Lw_ticks 3 = .ok (.iload_n 1, 1) := by decide +kernel
theorem d_Lw_ticks_4 : decode b_Lw_ticks 4 = .ok (.invokevirtual 54, 3) := by decide +kernel
theorem d_Lw_ticks_7 : decode b_Lw_ticks 7 = .ok (.i2l, 1) := by decide +kernel
theorem d_Lw_ticks_8 : decode b_Lw_ticks 8 = .ok (.lastore, 1) := by decide +kernel
theorem d_Lw_ticks_9 : decode b_Lw_ticks 9 = .ok (.goto 9, 3) := by decide +kernel
theorem d_Lw_ticks_12 : decode b_Lw_ticks 12 = .ok (.astore_n 3, 1) := by decide +kernel
theorem d_Lw_ticks_13 : decode b_Lw_ticks 13 = .ok (.iconst 1, 1) := by decide +kernel
theorem d_Lw_ticks_14 : decode b_Lw_ticks 14 = .ok (.ireturn, 1) := by decide +kernel
theorem d_Lw_ticks_15 : decode b_Lw_ticks 15 = .ok (.astore_n 3, 1) := by decide +kernel
theorem d_Lw_ticks_16 : decode b_Lw_ticks 16 = .ok (.iconst 2, 1) := by decide +kernel
theorem d_Lw_ticks_17 : decode b_Lw_ticks 17 = .ok (.ireturn, 1) := by decide +kernel
theorem d_Lw_ticks_18 : decode b_Lw_ticks 18 = .ok (.iconst 0, 1) := by decide +kernel
theorem d_Lw_ticks_19 : decode b_Lw_ticks 19 = .ok (.ireturn, 1) := by decide +kernel
theorem d_Lw_count_0 : decode b_Lw_count 0 = .ok (.aload_n 3, 1) := by decide +kernel
theorem d_Lw_count_1 : decode b_Lw_count 1 = .ok (.iconst 0, 1) := by decide +kernel
theorem d_Lw_count_2 : decode b_Lw_count 2 = .ok (.aload_n 0, 1) := by decide +kernel
theorem d_Lw_count_3 : decode b_Lw_count 3 = .ok (.iload_n 1, 1) := by decide +kernel
theorem d_Lw_count_4 : decode b_Lw_count 4 = .ok (.iload_n 2, 1) := by decide +kernel
theorem d_Lw_count_5 : decode b_Lw_count 5 = .ok (.invokevirtual 58, 3) := by decide +kernel
theorem d_Lw_count_8 : decode b_Lw_count 8 = .ok (.i2l, 1) := by decide +kernel
theorem d_Lw_count_9 : decode b_Lw_count 9 = .ok (.lastore, 1) := by decide +kernel
theorem d_Lw_count_10 : decode b_Lw_count 10 = .ok (.goto 7, 3) := by decide +kernel
theorem d_Lw_count_13 : decode b_Lw_count 13 = .ok (.astore 4, 2) := by decide +kernel
theorem d_Lw_count_15 : decode b_Lw_count 15 = .ok (.iconst 1, 1) := by decide +kernel
theorem d_Lw_count_16 : decode b_Lw_count 16 = .ok (.ireturn, 1) := by decide +kernel
theorem d_Lw_count_17 : decode b_Lw_count 17 = .ok (.iconst 0, 1) := by decide +kernel
theorem d_Lw_count_18 : decode b_Lw_count 18 = .ok (.ireturn, 1) := by decide +kernel
theorem d_Lw_shared_0 : decode b_Lw_shared 0 = .ok (.aload_n 2, 1) := by decide +kernel
theorem d_Lw_shared_1 : decode b_Lw_shared 1 = .ok (.iconst 0, 1) := by decide +kernel
theorem d_Lw_shared_2 : decode b_Lw_shared 2 = .ok (.aload_n 0, 1) := by decide +kernel
theorem d_Lw_shared_3 : decode b_Lw_shared 3 = .ok (.iload_n 1, 1) := by decide +kernel
theorem d_Lw_shared_4 : decode b_Lw_shared 4 = .ok (.invokevirtual 61, 3) := by decide +kernel
theorem d_Lw_shared_7 : decode b_Lw_shared 7 = .ok (.i2l, 1) := by decide +kernel
theorem d_Lw_shared_8 : decode b_Lw_shared 8 = .ok (.lastore, 1) := by decide +kernel
theorem d_Lw_shared_9 : decode b_Lw_shared 9 = .ok (.goto 6, 3) := by decide +kernel
theorem d_Lw_shared_12 : decode b_Lw_shared 12 = .ok (.astore_n 3, 1) := by decide +kernel
theorem d_Lw_shared_13 : decode b_Lw_shared 13 = .ok (.iconst 1, 1) := by decide +kernel
theorem d_Lw_shared_14 : decode b_Lw_shared 14 = .ok (.ireturn, 1) := by decide +kernel
theorem d_Lw_shared_15 : decode b_Lw_shared 15 = .ok (.iconst 0, 1) := by decide +kernel
theorem d_Lw_shared_16 : decode b_Lw_shared 16 = .ok (.ireturn, 1) := by decide +kernel
