theorem d_st_leaveSupervisor_25 : decode b_st_leaveSupervisor 25 = .ok (.aload_n 0, 1) := by decide +kernel
theorem d_st_leaveSupervisor_26 : decode b_st_leaveSupervisor 26 = .ok (.aload_n 0, 1) := by decide +kernel
theorem d_st_leaveSupervisor_27 : decode b_st_leaveSupervisor 27 = .ok (.getfield 9, 3) := by decide +kernel
theorem d_st_leaveSupervisor_30 : decode b_st_leaveSupervisor 30 = .ok (.iload_n 2, 1) := by decide +kernel
theorem d_st_leaveSupervisor_31 : decode b_st_leaveSupervisor 31 = .ok (.sipush 290, 3) := by decide +kernel
theorem d_st_leaveSupervisor_34 : decode b_st_leaveSupervisor 34 = .ok (.invokestatic 13, 3) := by decide +kernel
theorem d_st_leaveSupervisor_37 : decode b_st_leaveSupervisor 37 = .ok (.putfield 9, 3) := by decide +kernel
theorem d_st_leaveSupervisor_40 : decode b_st_leaveSupervisor 40 = .ok (.iload_n 1, 1) := by decide +kernel
theorem d_st_leaveSupervisor_41 : decode b_st_leaveSupervisor 41 = .ok (.ireturn, 1) := by decide +kernel
theorem d_tm_init_0 : decode b_tm_init 0 = .ok (.aload_n 0, 1) := by decide +kernel
theorem d_tm_init_1 : decode b_tm_init 1 = .ok (.invokespecial 1, 3) := by decide +kernel
theorem d_tm_init_4 : decode b_tm_init 4 = .ok (.aload_n 0, 1) := by decide +kernel
theorem d_tm_init_5 : decode b_tm_init 5 = .ok (.lconst 0, 1) := by decide +kernel
theorem d_tm_init_6 : decode b_tm_init 6 = .ok (.putfield 7, 3) := by decide +kernel
theorem d_tm_init_9 : decode b_tm_init 9 = .ok (.aload_n 0, 1) := by decide +kernel
theorem d_tm_init_10 : decode b_tm_init 10 = .ok (.ldc2_w 13, 3) := by decide +kernel
theorem d_tm_init_13 : decode b_tm_init 13 = .ok (.putfield 15, 3) := by decide +kernel
theorem d_tm_init_16 : decode b_tm_init 16 = .ok (.aload_n 0, 1) := by decide +kernel
theorem d_tm_init_17 : decode b_tm_init 17 = .ok (.iconst 0, 1) := by decide +kernel
theorem d_tm_init_18 : decode b_tm_init 18 = .ok (.putfield 18, 3) := by decide +kernel
theorem d_tm_init_21 : decode b_tm_init 21 = .ok (.return_, 1) := by decide +kernel
theorem d_tm_isReached_0 : decode b_tm_isReached 0 = .ok (.aload_n 0, 1) := by decide +kernel
theorem d_tm_isReached_1 : decode b_tm_isReached 1 = .ok (.getfield 7, 3) := by decide +kernel
theorem d_tm_isReached_4 : decode b_tm_isReached 4 = .ok (.ldc2_w 22, 3) := by decide +kernel
theorem d_tm_isReached_7 : decode b_tm_isReached 7 = .ok (.lxor, 1) := by decide +kernel
theorem d_tm_isReached_8 : decode b_tm_isReached 8 = .ok (.aload_n 0, 1) := by decide +kernel
theorem d_tm_isReached_9 : decode b_tm_isReached 9 = .ok (.getfield 15, 3) := by decide +kernel
theorem d_tm_isReached_12 : decode b_tm_isReached 12 = .ok (.ldc2_w 22, 3) := by decide +kernel
theorem d_tm_isReached_15 : decode b_tm_isReached 15 = .ok (.lxor, 1) := by decide +kernel
theorem d_tm_isReached_16 : decode b_tm_isReached 16 = .ok (.lcmp, 1) := by decide +kernel
theorem d_tm_isReached_17 : decode b_tm_isReached 17 = .ok (.ifCond .lt 7, 3) := by decide +kernel
theorem d_tm_isReached_20 : decode b_tm_isReached 20 = .ok (.iconst 1, 1) := by decide +kernel
theorem d_tm_isReached_21 : decode b_tm_isReached 21 = .ok (.goto 4, 3) := by decide +kernel
theorem d_tm_isReached_24 : decode b_tm_isReached 24 = .ok (.iconst 0, 1) := by decide +kernel
theorem d_tm_isReached_25 : decode b_tm_isReached 25 = .ok (.ireturn, 1) := by decide +kernel
theorem d_tm_withLower_0 : decode b_tm_withLower 0 = .ok (.lload_n 0, 1) := by decide +kernel
theorem d_tm_withLower_1 : decode b_tm_withLower 1 = .ok (.ldc2_w 24, 3) := by decide +kernel
theorem d_tm_withLower_4 : decode b_tm_withLower 4 = .ok (.land, 1) := by decide +kernel
theorem d_tm_withLower_5 : decode b_tm_withLower 5 = .ok (.iload_n 2, 1) := by decide +kernel
theorem d_tm_withLower_6 : decode b_tm_withLower 6 = .ok (.i2l, 1) := by decide +kernel
theorem d_tm_withLower_7 : decode b_tm_withLower 7 = .ok (.ldc2_w 26, 3) := by decide +kernel
theorem d_tm_withLower_10 : decode b_tm_withLower 10 = .ok (.land, 1) := by decide +kernel
theorem d_tm_withLower_11 : decode b_tm_withLower 11 = .ok (.lor, 1) := by decide +kernel
theorem d_tm_withLower_12 : decode b_tm_withLower 12 = .ok (.lreturn, 1) := by decide +kernel
theorem d_tm_withHigher_0 : decode b_tm_withHigher 0 = .ok (.lload_n 0, 1) := by decide +kernel
theorem d_tm_withHigher_1 : decode b_tm_withHigher 1 = .ok (.ldc2_w 26, 3) := by decide +kernel
theorem d_tm_withHigher_4 : decode b_tm_withHigher 4 = .ok (.land, 1) := by decide +kernel
theorem d_tm_withHigher_5 : decode b_tm_withHigher 5 = .ok (.iload_n 2, 1) := by decide +kernel
theorem d_tm_withHigher_6 : decode b_tm_withHigher 6 = .ok (.i2l, 1) := by decide +kernel
theorem d_tm_withHigher_7 : decode b_tm_withHigher 7 = .ok (.bipush 32, 2) := by decide +kernel
theorem d_tm_withHigher_9 : decode b_tm_withHigher 9 = .ok (.lshl, 1) := by decide +kernel
theorem d_tm_withHigher_10 : decode b_tm_withHigher 10 = .ok (.lor, 1) := by decide +kernel
theorem d_tm_withHigher_11 : decode b_tm_withHigher 11 = .ok (.lreturn, 1) := by decide +kernel
theorem d_la_cell_0 : decode b_la_cell 0 = .ok (.iload_n 1, 1) := by decide +kernel
theorem d_la_cell_1 : decode b_la_cell 1 = .ok (.aload_n 0, 1) := by decide +kernel
theorem d_la_cell_2 : decode b_la_cell 2 = .ok (.arraylength, 1) := by decide +kernel
theorem d_la_cell_3 : decode b_la_cell 3 = .ok (.if_icmp .ge 9, 3) := by decide +kernel
theorem d_la_cell_6 : decode b_la_cell 6 = .ok (.aload_n 0, 1) := by decide +kernel
theorem d_la_cell_7 : decode b_la_cell 7 = .ok (.iload_n 1, 1) := by decide +kernel
theorem d_la_cell_8 : decode b_la_cell 8 = .ok (.iaload, 1) := by decide +kernel
theorem d_la_cell_9 : decode b_la_cell 9 = .ok (.goto 4, 3) := by decide +kernel
theorem d_la_cell_12 : decode b_la_cell 12 = .ok (.iconst 0, 1) := by decide +kernel
theorem d_la_cell_13 : decode b_la_cell 13 = .ok (.ireturn, 1) := by decide +kernel
theorem d_la_ticks_0 : decode b_la_ticks 0 = .ok (.aload_n 0, 1) := by decide +kernel
theorem d_la_ticks_1 : decode b_la_ticks 1 = .ok (.iload_n 1, 1) := by decide +kernel
theorem d_la_ticks_2 : decode b_la_ticks 2 = .ok (.invokevirtual 7, 3) := by decide +kernel
theorem d_la_ticks_5 : decode b_la_ticks 5 = .ok (.goto 6, 3) := by decide +kernel
theorem d_la_ticks_8 : decode b_la_ticks 8 = .ok (.astore_n 2, 1) := by decide +kernel
theorem d_la_ticks_9 : decode b_la_ticks 9 = .ok (.iconst 1, 1) := by decide +kernel
theorem d_la_ticks_10 : decode b_la_ticks 10 = .ok (.ireturn, 1) := by decide +kernel
theorem d_la_ticks_11 : decode b_la_ticks 11 = .ok (.iconst 0, 1) := by decide +kernel
theorem d_la_ticks_12 : decode b_la_ticks 12 = .ok (.ireturn, 1) := by decide +kernel
theorem d_la_load_0 : decode b_la_load 0 = .ok (.aload_n 2, 1) := by decide +kernel
theorem d_la_load_1 : decode b_la_load 1 = .ok (.iconst 0, 1) := by decide +kernel
theorem d_la_load_2 : decode b_la_load 2 = .ok (.aload_n 0, 1) := by decide +kernel
theorem d_la_load_3 : decode b_la_load 3 = .ok (.iload_n 1, 1) := by decide +kernel
theorem d_la_load_4 : decode b_la_load 4 = .ok (.invokevirtual 15, 3) := by decide +kernel
theorem d_la_load_7 : decode b_la_load 7 = .ok (.i2l, 1) := by decide +kernel
theorem d_la_load_8 : decode b_la_load 8 = .ok (.lastore, 1) := by decide +kernel
theorem d_la_load_9 : decode b_la_load 9 = .ok (.goto 9, 3) := by decide +kernel
theorem d_la_load_12 : decode b_la_load 12 = .ok (.astore_n 3, 1) := by decide +kernel
theorem d_la_load_13 : decode b_la_load 13 = .ok (.iconst 1, 1) := by decide +kernel
theorem d_la_load_14 : decode b_la_load 14 = .ok (.ireturn, 1) := by decide +kernel
theorem d_la_load_15 : decode b_la_load 15 = .ok (.astore_n 3, 1) := by decide +kernel
theorem d_la_load_16 : decode b_la_load 16 = .ok (.iconst 2, 1) := by decide +kernel
theorem d_la_load_17 : decode b_la_load 17 = .ok (.ireturn, 1) := by decide +kernel
theorem d_la_load_18 : decode b_la_load 18 = .ok (.iconst 0, 1) := by decide +kernel
theorem d_la_load_19 : decode b_la_load 19 = .ok (.ireturn, 1) := by decide +kernel
theorem d_la_store_0 : decode b_la_store 0 = .ok (.aload_n 0, 1) := by decide +kernel
theorem d_la_store_1 : decode b_la_store 1 = .ok (.iload_n 1, 1) := by decide +kernel
theorem d_la_store_2 : decode b_la_store 2 = .ok (.iload_n 2, 1) := by decide +kernel
theorem d_la_store_3 : decode b_la_store 3 = .ok (.invokevirtual 21, 3) := by decide +kernel
theorem d_la_store_6 : decode b_la_store 6 = .ok (.goto 12, 3) := by decide +kernel
theorem d_la_store_9 : decode b_la_store 9 = .ok (.astore_n 3, 1) := by decide +kernel
theorem d_la_store_10 : decode b_la_store 10 = .ok (.iconst 1, 1) := by decide +kernel
theorem d_la_store_11 : decode b_la_store 11 = .ok (.ireturn, 1) := by decide +kernel
theorem d_la_store_12 : decode b_la_store 12 = .ok (.astore_n 3, 1) := by decide +kernel
theorem d_la_store_13 : decode b_la_store 13 = .ok (.iconst 2, 1) := by decide +kernel
theorem d_la_store_14 : decode b_la_store 14 = .ok (.ireturn, 1) := by decide +kernel
theorem d_la_store_15 : decode b_la_store 15 = .ok (.astore_n 3, 1) := by decide +kernel
theorem d_la_store_16 : decode b_la_store 16 = .ok (.iconst 3, 1) := by decide +kernel
theorem d_la_store_17 : decode b_la_store 17 = .ok (.ireturn, 1) := by decide +kernel
theorem d_la_store_18 : decode b_la_store 18 = .ok (.iconst 0, 1) := by decide +kernel
theorem d_la_store_19 : decode b_la_store 19 = .ok (.ireturn, 1) := by decide +kernel
theorem d_la_read_0 : decode b_la_read 0 = .ok (.aload_n 2, 1) := by decide +kernel
theorem d_la_read_1 : decode b_la_read 1 = .ok (.iconst 0, 1) := by decide +kernel
theorem d_la_read_2 : decode b_la_read 2 = .ok (.aload_n 0, 1) := by decide +kernel
theorem d_la_read_3 : decode b_la_read 3 = .ok (.iload_n 1, 1) := by decide +kernel
theorem d_la_read_4 : decode b_la_read 4 = .ok (.invokevirtual 27, 3) := by decide +kernel
theorem d_la_read_7 : decode b_la_read 7 = .ok (.i2l, 1) := by decide +kernel
theorem d_la_read_8 : decode b_la_read 8 = .ok (.lastore, 1) := by decide +kernel
theorem d_la_read_9 : decode b_la_read 9 = .ok (.goto 9, 3) := by decide +kernel
theorem d_la_read_12 : decode b_la_read 12 = .ok (.astore_n 3, 1) := by decide +kernel
theorem d_la_read_13 : decode b_la_read 13 = .ok (.iconst 1, 1) := by decide +kernel
theorem d_la_read_14 : decode b_la_read 14 = .ok (.ireturn, 1) := by decide +kernel
theorem d_la_read_15 : decode b_la_read 15 = .ok (.astore_n 3, 1) := by decide +kernel
theorem d_la_read_16 : decode b_la_read 16 = .ok (.iconst 2, 1) := by decide +kernel
theorem d_la_read_17 : decode b_la_read 17 = .ok (.ireturn, 1) := by decide +kernel
theorem d_la_read_18 : decode b_la_read 18 = .ok (.iconst 0, 1) := by decide +kernel
theorem d_la_read_19 : decode b_la_read 19 = .ok (.ireturn, 1) := by decide +kernel
theorem d_la_write_0 : decode b_la_write 0 = .ok (.aload_n 0, 1) := by decide +kernel
theorem d_la_write_1 : decode b_la_write 1 = .ok (.iload_n 1, 1) := by decide +kernel
theorem d_la_write_2 : decode b_la_write 2 = .ok (.iload_n 2, 1) := by decide +kernel
theorem d_la_write_3 : decode b_la_write 3 = .ok (.invokevirtual 34, 3) := by decide +kernel
theorem d_la_write_6 : decode b_la_write 6 = .ok (.goto 9, 3) := by decide +kernel
theorem d_la_write_9 : decode b_la_write 9 = .ok (.astore_n 3, 1) := by decide +kernel
theorem d_la_write_10 : decode b_la_write 10 = .ok (.iconst 1, 1) := by decide +kernel
theorem d_la_write_11 : decode b_la_write 11 = .ok (.ireturn, 1) := by decide +kernel
theorem d_la_write_12 : decode b_la_write 12 = .ok (.astore_n 3, 1) := by decide +kernel
theorem d_la_write_13 : decode b_la_write 13 = .ok (.iconst 2, 1) := by decide +kernel
theorem d_la_write_14 : decode b_la_write 14 = .ok (.ireturn, 1) := by decide +kernel
theorem d_la_write_15 : decode b_la_write 15 = .ok (.iconst 0, 1) := by decide +kernel
theorem d_la_write_16 : decode b_la_write 16 = .ok (.ireturn, 1) := by decide +kernel
theorem d_la_raise_0 : decode b_la_raise 0 = .ok (.aload_n 2, 1) := by decide +kernel
theorem d_la_raise_1 : decode b_la_raise 1 = .ok (.iconst 0, 1) := by decide +kernel
theorem d_la_raise_2 : decode b_la_raise 2 = .ok (.aload_n 0, 1) := by decide +kernel
theorem d_la_raise_3 : decode b_la_raise 3 = .ok (.iload_n 1, 1) := by decide +kernel
theorem d_la_raise_4 : decode b_la_raise 4 = .ok (.invokevirtual 37, 3) := by decide +kernel
theorem d_la_raise_7 : decode b_la_raise 7 = .ok (.i2l, 1) := by decide +kernel
theorem d_la_raise_8 : decode b_la_raise 8 = .ok (.lastore, 1) := by decide +kernel
theorem d_la_raise_9 : decode b_la_raise 9 = .ok (.goto 6, 3) := by decide +kernel
theorem d_la_raise_12 : decode b_la_raise 12 = .ok (.astore_n 3, 1) := by decide +kernel
theorem d_la_raise_13 : decode b_la_raise 13 = .ok (.iconst 1, 1) := by decide +kernel
theorem d_la_raise_14 : decode b_la_raise 14 = .ok (.ireturn, 1) := by decide +kernel
theorem d_la_raise_15 : decode b_la_raise 15 = .ok (.iconst 0, 1) := by decide +kernel
theorem d_la_raise_16 : decode b_la_raise 16 = .ok (.ireturn, 1) := by decide +kernel
theorem d_la_leave_0 : decode b_la_leave 0 = .ok (.aload_n 2, 1) := by decide +kernel
theorem d_la_leave_1 : decode b_la_leave 1 = .ok (.iconst 0, 1) := by decide +kernel
theorem d_la_leave_2 : decode b_la_leave 2 = .ok (.aload_n 0, 1) := by decide +kernel
theorem d_la_leave_3 : decode b_la_leave 3 = .ok (.iload_n 1, 1) := by decide +kernel
theorem d_la_leave_4 : decode b_la_leave 4 = .ok (.invokevirtual 40, 3) := by decide +kernel
theorem d_la_leave_7 : decode b_la_leave 7 = .ok (.i2l, 1) := by decide +kernel
theorem d_la_leave_8 : decode b_la_leave 8 = .ok (.lastore, 1) := by decide +kernel
theorem d_la_leave_9 : decode b_la_leave 9 = .ok (.goto 6, 3) := by decide +kernel
theorem d_la_leave_12 : decode b_la_leave 12 = .ok (.astore_n 3, 1) := by decide +kernel
theorem d_la_leave_13 : decode b_la_leave 13 = .ok (.iconst 1, 1) := by decide +kernel
theorem d_la_leave_14 : decode b_la_leave 14 = .ok (.ireturn, 1) := by decide +kernel
theorem d_la_leave_15 : decode b_la_leave 15 = .ok (.iconst 0, 1) := by decide +kernel
theorem d_la_leave_16 : decode b_la_leave 16 = .ok (.ireturn, 1) := by decide +kernel
theorem d_la_source_0 : decode b_la_source 0 = .ok (.aload_n 2, 1) := by decide +kernel
theorem d_la_source_1 : decode b_la_source 1 = .ok (.iconst 0, 1) := by decide +kernel
theorem d_la_source_2 : decode b_la_source 2 = .ok (.aload_n 0, 1) := by decide +kernel
theorem d_la_source_3 : decode b_la_source 3 = .ok (.iload_n 1, 1) := by decide +kernel
theorem d_la_source_4 : decode b_la_source 4 = .ok (.invokevirtual 44, 3) := by decide +kernel
theorem d_la_source_7 : decode b_la_source 7 = .ok (.i2l, 1) := by decide +kernel
theorem d_la_source_8 : decode b_la_source 8 = .ok (.lastore, 1) := by decide +kernel
theorem d_la_source_9 : decode b_la_source 9 = .ok (.goto 6, 3) := by decide +kernel
theorem d_la_source_12 : decode b_la_source 12 = .ok (.astore_n 3, 1) := by decide +kernel
theorem d_la_source_13 : decode b_la_source 13 = .ok (.iconst 1, 1) := by decide +kernel
theorem d_la_source_14 : decode b_la_source 14 = .ok (.ireturn, 1) := by decide +kernel
theorem d_la_source_15 : decode b_la_source 15 = .ok (.iconst 0, 1) := by decide +kernel
theorem d_la_source_16 : decode b_la_source 16 = .ok (.ireturn, 1) := by decide +kernel
theorem d_la_law_0 : decode b_la_law 0 = .ok (.new 8, 3) := by decide +kernel
theorem d_la_law_3 : decode b_la_law 3 = .ok (.dup, 1) := by decide +kernel
theorem d_la_law_4 : decode b_la_law 4 = .ok (.aload_n 0, 1) := by decide +kernel
theorem d_la_law_5 : decode b_la_law 5 = .ok (.iconst 0, 1) := by decide +kernel
theorem d_la_law_6 : decode b_la_law 6 = .ok (.invokestatic 47, 3) := by decide +kernel
theorem d_la_law_9 : decode b_la_law 9 = .ok (.invokespecial 53, 3) := by decide +kernel
theorem d_la_law_12 : decode b_la_law 12 = .ok (.astore_n 1, 1) := by decide +kernel
theorem d_la_law_13 : decode b_la_law 13 = .ok (.new 55, 3) := by decide +kernel
theorem d_la_law_16 : decode b_la_law 16 = .ok (.dup, 1) := by decide +kernel
theorem d_la_law_17 : decode b_la_law 17 = .ok (.aload_n 0, 1) := by decide +kernel
theorem d_la_law_18 : decode b_la_law 18 = .ok (.iconst 0, 1) := by decide +kernel
theorem d_la_law_19 : decode b_la_law 19 = .ok (.invokestatic 47, 3) := by decide +kernel
theorem d_la_law_22 : decode b_la_law 22 = .ok (.invokespecial 57, 3) := by decide +kernel
theorem d_la_law_25 : decode b_la_law 25 = .ok (.astore_n 2, 1) := by decide +kernel
theorem d_la_law_26 : decode b_la_law 26 = .ok (.iconst 1, 1) := by decide +kernel
theorem d_la_law_27 : decode b_la_law 27 = .ok (.newarray .long, 2) := by decide +kernel
theorem d_la_law_29 : decode b_la_law 29 = .ok (.astore_n 3, 1) := by decide +kernel
theorem d_la_law_30 : decode b_la_law 30 = .ok (.iconst 1, 1) := by decide +kernel
theorem d_la_law_31 : decode b_la_law 31 = .ok (.istore 4, 2) := by decide +kernel
theorem d_la_law_33 : decode b_la_law 33 = .ok (.iload 4, 2) := by decide +kernel
theorem d_la_law_35 : decode b_la_law 35 = .ok (.aload_n 0, 1) := by decide +kernel
theorem d_la_law_36 : decode b_la_law 36 = .ok (.arraylength, 1) := by decide +kernel
theorem d_la_law_37 : decode b_la_law 37 = .ok (.iconst 4, 1) := by decide +kernel
theorem d_la_law_38 : decode b_la_law 38 = .ok (.isub, 1) := by decide +kernel
theorem d_la_law_39 : decode b_la_law 39 = .ok (.if_icmp .gt 658, 3) := by decide +kernel
theorem d_la_law_42 : decode b_la_law 42 = .ok (.aload_n 0, 1) := by decide +kernel
theorem d_la_law_43 : decode b_la_law 43 = .ok (.iload 4, 2) := by decide +kernel
theorem d_la_law_45 : decode b_la_law 45 = .ok (.iaload, 1) := by decide +kernel
theorem d_la_law_46 : decode b_la_law 46 = .ok (.bipush 15, 2) := by decide +kernel
theorem d_la_law_48 : decode b_la_law 48 = .ok (.iand, 1) := by decide +kernel
theorem d_la_law_49 : decode b_la_law 49 = .ok (.tableswitch 642 0 13 #[71, 96, 132, 188, 236, 302, 358, 406, 419, 475, 547, 560, 573, 586], 71) := by decide +kernel
theorem d_la_law_120 : decode b_la_law 120 = .ok (.aload_n 1, 1) := by decide +kernel
theorem d_la_law_121 : decode b_la_law 121 = .ok (.aload_n 0, 1) := by decide +kernel
theorem d_la_law_122 : decode b_la_law 122 = .ok (.iload 4, 2) := by decide +kernel
theorem d_la_law_124 : decode b_la_law 124 = .ok (.iconst 1, 1) := by decide +kernel
theorem d_la_law_125 : decode b_la_law 125 = .ok (.iadd, 1) := by decide +kernel
theorem d_la_law_126 : decode b_la_law 126 = .ok (.iaload, 1) := by decide +kernel
theorem d_la_law_127 : decode b_la_law 127 = .ok (.invokevirtual 58, 3) := by decide +kernel
theorem d_la_law_130 : decode b_la_law 130 = .ok (.aload_n 2, 1) := by decide +kernel
theorem d_la_law_131 : decode b_la_law 131 = .ok (.aload_n 0, 1) := by decide +kernel
theorem d_la_law_132 : decode b_la_law 132 = .ok (.iload 4, 2) := by decide +kernel
theorem d_la_law_134 : decode b_la_law 134 = .ok (.iconst 1, 1) := by decide +kernel
theorem d_la_law_135 : decode b_la_law 135 = .ok (.iadd, 1) := by decide +kernel
theorem d_la_law_136 : decode b_la_law 136 = .ok (.iaload, 1) := by decide +kernel
theorem d_la_law_137 : decode b_la_law 137 = .ok (.invokevirtual 61, 3) := by decide +kernel
theorem d_la_law_140 : decode b_la_law 140 = .ok (.if_icmp .eq 551, 3) := by decide +kernel
theorem d_la_law_143 : decode b_la_law 143 = .ok (.iconst 0, 1) := by decide +kernel
theorem d_la_law_144 : decode b_la_law 144 = .ok (.ireturn, 1) := by decide +kernel
theorem d_la_law_145 : decode b_la_law 145 = .ok (.aload_n 1, 1) := by decide +kernel
theorem d_la_law_146 : decode b_la_law 146 = .ok (.aload_n 0, 1) := by decide +kernel
theorem d_la_law_147 : decode b_la_law 147 = .ok (.iload 4, 2) := by decide +kernel
theorem d_la_law_149 : decode b_la_law 149 = .ok (.iconst 1, 1) := by decide +kernel
theorem d_la_law_150 : decode b_la_law 150 = .ok (.iadd, 1) := by decide +kernel
theorem d_la_law_151 : decode b_la_law 151 = .ok (.iaload, 1) := by decide +kernel
theorem d_la_law_152 : decode b_la_law 152 = .ok (.invokestatic 62, 3) := by decide +kernel
theorem d_la_law_155 : decode b_la_law 155 = .ok (.istore 5, 2) := by decide +kernel
theorem d_la_law_157 : decode b_la_law 157 = .ok (.aload_n 2, 1) := by decide +kernel
theorem d_la_law_158 : decode b_la_law 158 = .ok (.aload_n 0, 1) := by decide +kernel
theorem d_la_law_159 : decode b_la_law 159 = .ok (.iload 4, 2) := by decide +kernel
theorem d_la_law_161 : decode b_la_law 161 = .ok (.iconst 1, 1) := by decide +kernel
theorem d_la_law_162 : decode b_la_law 162 = .ok (.iadd, 1) := by decide +kernel
theorem d_la_law_163 : decode b_la_law 163 = .ok (.iaload, 1) := by decide +kernel
theorem d_la_law_164 : decode b_la_law 164 = .ok (.invokevirtual 65, 3) := by decide +kernel
theorem d_la_law_167 : decode b_la_law 167 = .ok (.aload_n 2, 1) := by decide +kernel
theorem d_la_law_168 : decode b_la_law 168 = .ok (.invokevirtual 66, 3) := by decide +kernel
theorem d_la_law_171 : decode b_la_law 171 = .ok (.iload 5, 2) := by decide +kernel
theorem d_la_law_173 : decode b_la_law 173 = .ok (.if_icmp .eq 5, 3) := by decide +kernel
theorem d_la_law_176 : decode b_la_law 176 = .ok (.iconst 0, 1) := by decide +kernel
theorem d_la_law_177 : decode b_la_law 177 = .ok (.ireturn, 1) := by decide +kernel
theorem d_la_law_178 : decode b_la_law 178 = .ok (.goto 513, 3) := by decide +kernel
theorem d_la_law_181 : decode b_la_law 181 = .ok (.aload_n 1, 1) := by decide +kernel
theorem d_la_law_182 : decode b_la_law 182 = .ok (.aload_n 0, 1) := by decide +kernel
theorem d_la_law_183 : decode b_la_law 183 = .ok (.iload 4, 2) := by decide +kernel
theorem d_la_law_185 : decode b_la_law 185 = .ok (.iconst 1, 1) := by decide +kernel
theorem d_la_law_186 : decode b_la_law 186 = .ok (.iadd, 1) := by decide +kernel
theorem d_la_law_187 : decode b_la_law 187 = .ok (.iaload, 1) := by decide +kernel
theorem d_la_law_188 : decode b_la_law 188 = .ok (.aload_n 3, 1) := by decide +kernel
theorem d_la_law_189 : decode b_la_law 189 = .ok (.invokestatic 70, 3) := by decide +kernel
theorem d_la_law_192 : decode b_la_law 192 = .ok (.istore 5, 2) := by decide +kernel
theorem d_la_law_194 : decode b_la_law 194 = .ok (.aload_n 2, 1) := by decide +kernel
theorem d_la_law_195 : decode b_la_law 195 = .ok (.aload_n 0, 1) := by decide +kernel
theorem d_la_law_196 : decode b_la_law 196 = .ok (.iload 4, 2) := by decide +kernel
theorem d_la_law_198 : decode b_la_law 198 = .ok (.iconst 1, 1) := by decide +kernel
theorem d_la_law_199 : decode b_la_law 199 = .ok (.iadd, 1) := by decide +kernel
theorem d_la_law_200 : decode b_la_law 200 = .ok (.iaload, 1) := by decide +kernel
theorem d_la_law_201 : decode b_la_law 201 = .ok (.invokevirtual 73, 3) := by decide +kernel
theorem d_la_law_204 : decode b_la_law 204 = .ok (.istore 6, 2) := by decide +kernel
theorem d_la_law_206 : decode b_la_law 206 = .ok (.aload_n 2, 1) := by decide +kernel
theorem d_la_law_207 : decode b_la_law 207 = .ok (.invokevirtual 66, 3) := by decide +kernel
theorem d_la_law_210 : decode b_la_law 210 = .ok (.iload 5, 2) := by decide +kernel
theorem d_la_law_212 : decode b_la_law 212 = .ok (.if_icmp .eq 5, 3) := by decide +kernel
theorem d_la_law_215 : decode b_la_law 215 = .ok (.iconst 0, 1) := by decide +kernel
theorem d_la_law_216 : decode b_la_law 216 = .ok (.ireturn, 1) := by decide +kernel
theorem d_la_law_217 : decode b_la_law 217 = .ok (.iload 5, 2) := by decide +kernel
theorem d_la_law_219 : decode b_la_law 219 = .ok (.ifCond .ne 15, 3) := by decide +kernel
theorem d_la_law_222 : decode b_la_law 222 = .ok (.aload_n 3, 1) := by decide +kernel
theorem d_la_law_223 : decode b_la_law 223 = .ok (.iconst 0, 1) := by decide +kernel
theorem d_la_law_224 : decode b_la_law 224 = .ok (.laload, 1) := by decide +kernel
theorem d_la_law_225 : decode b_la_law 225 = .ok (.iload 6, 2) := by decide +kernel
theorem d_la_law_227 : decode b_la_law 227 = .ok (.i2l, 1) := by decide +kernel
theorem d_la_law_228 : decode b_la_law 228 = .ok (.lcmp, 1) := by decide +kernel
theorem d_la_law_229 : decode b_la_law 229 = .ok (.ifCond .eq 5, 3) := by decide +kernel
theorem d_la_law_232 : decode b_la_law 232 = .ok (.iconst 0, 1) := by decide +kernel
theorem d_la_law_233 : decode b_la_law 233 = .ok (.ireturn, 1) := by decide +kernel
theorem d_la_law_234 : decode b_la_law 234 = .ok (.goto 457, 3) := by decide +kernel
theorem d_la_law_237 : decode b_la_law 237 = .ok (.aload_n 1, 1) := by decide +kernel
theorem d_la_law_238 : decode b_la_law 238 = .ok (.aload_n 0, 1) := by decide +kernel
theorem d_la_law_239 : decode b_la_law 239 = .ok (.iload 4, 2) := by decide +kernel
theorem d_la_law_241 : decode b_la_law 241 = .ok (.iconst 1, 1) := by decide +kernel
theorem d_la_law_242 : decode b_la_law 242 = .ok (.iadd, 1) := by decide +kernel
theorem d_la_law_243 : decode b_la_law 243 = .ok (.iaload, 1) := by decide +kernel
theorem d_la_law_244 : decode b_la_law 244 = .ok (.aload_n 0, 1) := by decide +kernel
theorem d_la_law_245 : decode b_la_law 245 = .ok (.iload 4, 2) := by decide +kernel
theorem d_la_law_247 : decode b_la_law 247 = .ok (.iconst 2, 1) := by decide +kernel
theorem d_la_law_248 : decode b_la_law 248 = .ok (.iadd, 1) := by decide +kernel
theorem d_la_law_249 : decode b_la_law 249 = .ok (.iaload, 1) := by decide +kernel
theorem d_la_law_250 : decode b_la_law 250 = .ok (.invokestatic 74, 3) := by decide +kernel
theorem d_la_law_253 : decode b_la_law 253 = .ok (.istore 5, 2) := by decide +kernel
theorem d_la_law_255 : decode b_la_law 255 = .ok (.aload_n 2, 1) := by decide +kernel
theorem d_la_law_256 : decode b_la_law 256 = .ok (.aload_n 0, 1) := by decide +kernel
theorem d_la_law_257 : decode b_la_law 257 = .ok (.iload 4, 2) := by decide +kernel
theorem d_la_law_259 : decode b_la_law 259 = .ok (.iconst 1, 1) := by decide +kernel
theorem d_la_law_260 : decode b_la_law 260 = .ok (.iadd, 1) := by decide +kernel
theorem d_la_law_261 : decode b_la_law 261 = .ok (.iaload, 1) := by decide +kernel
theorem d_la_law_262 : decode b_la_law 262 = .ok (.aload_n 0, 1) := by decide +kernel
theorem d_la_law_263 : decode b_la_law 263 = .ok (.iload 4, 2) := by decide +kernel
theorem d_la_law_265 : decode b_la_law 265 = .ok (.iconst 2, 1) := by decide +kernel
theorem d_la_law_266 : decode b_la_law 266 = .ok (.iadd, 1) := by decide +kernel
theorem d_la_law_267 : decode b_la_law 267 = .ok (.iaload, 1) := by decide +kernel
theorem d_la_law_268 : decode b_la_law 268 = .ok (.invokevirtual 77, 3) := by decide +kernel
theorem d_la_law_271 : decode b_la_law 271 = .ok (.aload_n 2, 1) := by decide +kernel
theorem d_la_law_272 : decode b_la_law 272 = .ok (.invokevirtual 66, 3) := by decide +kernel
theorem d_la_law_275 : decode b_la_law 275 = .ok (.iload 5, 2) := by decide +kernel
theorem d_la_law_277 : decode b_la_law 277 = .ok (.if_icmp .eq 5, 3) := by decide +kernel
theorem d_la_law_280 : decode b_la_law 280 = .ok (.iconst 0, 1) := by decide +kernel
theorem d_la_law_281 : decode b_la_law 281 = .ok (.ireturn, 1) := by decide +kernel
theorem d_la_law_282 : decode b_la_law 282 = .ok (.goto 409, 3) := by decide +kernel
theorem d_la_law_285 : decode b_la_law 285 = .ok (.aload_n 1, 1) := by decide +kernel
theorem d_la_law_286 : decode b_la_law 286 = .ok (.aload_n 0, 1) := by decide +kernel
theorem d_la_law_287 : decode b_la_law 287 = .ok (.iload 4, 2) := by decide +kernel
theorem d_la_law_289 : decode b_la_law 289 = .ok (.iconst 1, 1) := by decide +kernel
theorem d_la_law_290 : decode b_la_law 290 = .ok (.iadd, 1) := by decide +kernel
theorem d_la_law_291 : decode b_la_law 291 = .ok (.iaload, 1) := by decide +kernel
theorem d_la_law_292 : decode b_la_law 292 = .ok (.aload_n 0, 1) := by decide +kernel
theorem d_la_law_293 : decode b_la_law 293 = .ok (.iload 4, 2) := by decide +kernel
theorem d_la_law_295 : decode b_la_law 295 = .ok (.iconst 2, 1) := by decide +kernel
theorem d_la_law_296 : decode b_la_law 296 = .ok (.iadd, 1) := by decide +kernel
theorem d_la_law_297 : decode b_la_law 297 = .ok (.iaload, 1) := by decide +kernel
theorem d_la_law_298 : decode b_la_law 298 = .ok (.ifCond .eq 7, 3) := by decide +kernel
theorem d_la_law_301 : decode b_la_law 301 = .ok (.iconst 1, 1) := by decide +kernel
theorem d_la_law_302 : decode b_la_law 302 = .ok (.goto 4, 3) := by decide +kernel
theorem d_la_law_305 : decode b_la_law 305 = .ok (.iconst 0, 1) := by decide +kernel
theorem d_la_law_306 : decode b_la_law 306 = .ok (.aload_n 0, 1) := by decide +kernel
theorem d_la_law_307 : decode b_la_law 307 = .ok (.iload 4, 2) := by decide +kernel
theorem d_la_law_309 : decode b_la_law 309 = .ok (.iconst 3, 1) := by decide +kernel
theorem d_la_law_310 : decode b_la_law 310 = .ok (.iadd, 1) := by decide +kernel
theorem d_la_law_311 : decode b_la_law 311 = .ok (.iaload, 1) := by decide +kernel
theorem d_la_law_312 : decode b_la_law 312 = .ok (.invokevirtual 78, 3) := by decide +kernel
theorem d_la_law_315 : decode b_la_law 315 = .ok (.aload_n 2, 1) := by decide +kernel
theorem d_la_law_316 : decode b_la_law 316 = .ok (.aload_n 0, 1) := by decide +kernel
theorem d_la_law_317 : decode b_la_law 317 = .ok (.iload 4, 2) := by decide +kernel
theorem d_la_law_319 : decode b_la_law 319 = .ok (.iconst 1, 1) := by decide +kernel
theorem d_la_law_320 : decode b_la_law 320 = .ok (.iadd, 1) := by decide +kernel
theorem d_la_law_321 : decode b_la_law 321 = .ok (.iaload, 1) := by decide +kernel
theorem d_la_law_322 : decode b_la_law 322 = .ok (.aload_n 0, 1) := by decide +kernel
theorem d_la_law_323 : decode b_la_law 323 = .ok (.iload 4, 2) := by decide +kernel
theorem d_la_law_325 : decode b_la_law 325 = .ok (.iconst 2, 1) := by decide +kernel
theorem d_la_law_326 : decode b_la_law 326 = .ok (.iadd, 1) := by decide +kernel
theorem d_la_law_327 : decode b_la_law 327 = .ok (.iaload, 1) := by decide +kernel
theorem d_la_law_328 : decode b_la_law 328 = .ok (.ifCond .eq 7, 3) := by decide +kernel
theorem d_la_law_331 : decode b_la_law 331 = .ok (.iconst 1, 1) := by decide +kernel
theorem d_la_law_332 : decode b_la_law 332 = .ok (.goto 4, 3) := by decide +kernel
theorem d_la_law_335 : decode b_la_law 335 = .ok (.iconst 0, 1) := by decide +kernel
theorem d_la_law_336 : decode b_la_law 336 = .ok (.aload_n 0, 1) := by decide +kernel
theorem d_la_law_337 : decode b_la_law 337 = .ok (.iload 4, 2) := by decide +kernel
theorem d_la_law_339 : decode b_la_law 339 = .ok (.iconst 3, 1) := by decide +kernel
theorem d_la_law_340 : decode b_la_law 340 = .ok (.iadd, 1) := by decide +kernel
theorem d_la_law_341 : decode b_la_law 341 = .ok (.iaload, 1) := by decide +kernel
theorem d_la_law_342 : decode b_la_law 342 = .ok (.invokevirtual 82, 3) := by decide +kernel
theorem d_la_law_345 : decode b_la_law 345 = .ok (.lcmp, 1) := by decide +kernel
theorem d_la_law_346 : decode b_la_law 346 = .ok (.ifCond .eq 345, 3) := by decide +kernel
theorem d_la_law_349 : decode b_la_law 349 = .ok (.iconst 0, 1) := by decide +kernel
theorem d_la_law_350 : decode b_la_law 350 = .ok (.ireturn, 1) := by decide +kernel
theorem d_la_law_351 : decode b_la_law 351 = .ok (.aload_n 1, 1) := by decide +kernel
theorem d_la_law_352 : decode b_la_law 352 = .ok (.aload_n 0, 1) := by decide +kernel
theorem d_la_law_353 : decode b_la_law 353 = .ok (.iload 4, 2) := by decide +kernel
theorem d_la_law_355 : decode b_la_law 355 = .ok (.iconst 1, 1) := by decide +kernel
theorem d_la_law_356 : decode b_la_law 356 = .ok (.iadd, 1) := by decide +kernel
theorem d_la_law_357 : decode b_la_law 357 = .ok (.iaload, 1) := by decide +kernel
theorem d_la_law_358 : decode b_la_law 358 = .ok (.aload_n 3, 1) := by decide +kernel
theorem d_la_law_359 : decode b_la_law 359 = .ok (.invokestatic 83, 3) := by decide +kernel
theorem d_la_law_362 : decode b_la_law 362 = .ok (.istore 5, 2) := by decide +kernel
theorem d_la_law_364 : decode b_la_law 364 = .ok (.aload_n 2, 1) := by decide +kernel
theorem d_la_law_365 : decode b_la_law 365 = .ok (.aload_n 0, 1) := by decide +kernel
theorem d_la_law_366 : decode b_la_law 366 = .ok (.iload 4, 2) := by decide +kernel
theorem d_la_law_368 : decode b_la_law 368 = .ok (.iconst 1, 1) := by decide +kernel
theorem d_la_law_369 : decode b_la_law 369 = .ok (.iadd, 1) := by decide +kernel
theorem d_la_law_370 : decode b_la_law 370 = .ok (.iaload, 1) := by decide +kernel
theorem d_la_law_371 : decode b_la_law 371 = .ok (.invokevirtual 85, 3) := by decide +kernel
theorem d_la_law_374 : decode b_la_law 374 = .ok (.istore 6, 2) := by decide +kernel
theorem d_la_law_376 : decode b_la_law 376 = .ok (.aload_n 2, 1) := by decide +kernel
theorem d_la_law_377 : decode b_la_law 377 = .ok (.invokevirtual 66, 3) := by decide +kernel
theorem d_la_law_380 : decode b_la_law 380 = .ok (.iload 5, 2) := by decide +kernel
theorem d_la_law_382 : decode b_la_law 382 = .ok (.if_icmp .eq 5, 3) := by decide +kernel
theorem d_la_law_385 : decode b_la_law 385 = .ok (.iconst 0, 1) := by decide +kernel
theorem d_la_law_386 : decode b_la_law 386 = .ok (.ireturn, 1) := by decide +kernel
theorem d_la_law_387 : decode b_la_law 387 = .ok (.iload 5, 2) := by decide +kernel
theorem d_la_law_389 : decode b_la_law 389 = .ok (.ifCond .ne 15, 3) := by decide +kernel
theorem d_la_law_392 : decode b_la_law 392 = .ok (.aload_n 3, 1) := by decide +kernel
theorem d_la_law_393 : decode b_la_law 393 = .ok (.iconst 0, 1) := by decide +kernel
theorem d_la_law_394 : decode b_la_law 394 = .ok (.laload, 1) := by decide +kernel
theorem d_la_law_395 : decode b_la_law 395 = .ok (.iload 6, 2) := by decide +kernel
theorem d_la_law_397 : decode b_la_law 397 = .ok (.i2l, 1) := by decide +kernel
theorem d_la_law_398 : decode b_la_law 398 = .ok (.lcmp, 1) := by decide +kernel
theorem d_la_law_399 : decode b_la_law 399 = .ok (.ifCond .eq 5, 3) := by decide +kernel
theorem d_la_law_402 : decode b_la_law 402 = .ok (.iconst 0, 1) := by decide +kernel
theorem d_la_law_403 : decode b_la_law 403 = .ok (.ireturn, 1) := by decide +kernel
theorem d_la_law_404 : decode b_la_law 404 = .ok (.goto 287, 3) := by decide +kernel
theorem d_la_law_407 : decode b_la_law 407 = .ok (.aload_n 1, 1) := by decide +kernel
theorem d_la_law_408 : decode b_la_law 408 = .ok (.aload_n 0, 1) := by decide +kernel
theorem d_la_law_409 : decode b_la_law 409 = .ok (.iload 4, 2) := by decide +kernel
theorem d_la_law_411 : decode b_la_law 411 = .ok (.iconst 1, 1) := by decide +kernel
theorem d_la_law_412 : decode b_la_law 412 = .ok (.iadd, 1) := by decide +kernel
theorem d_la_law_413 : decode b_la_law 413 = .ok (.iaload, 1) := by decide +kernel
theorem d_la_law_414 : decode b_la_law 414 = .ok (.aload_n 0, 1) := by decide +kernel
theorem d_la_law_415 : decode b_la_law 415 = .ok (.iload 4, 2) := by decide +kernel
theorem d_la_law_417 : decode b_la_law 417 = .ok (.iconst 2, 1) := by decide +kernel
theorem d_la_law_418 : decode b_la_law 418 = .ok (.iadd, 1) := by decide +kernel
theorem d_la_law_419 : decode b_la_law 419 = .ok (.iaload, 1) := by decide +kernel
theorem d_la_law_420 : decode b_la_law 420 = .ok (.invokestatic 86, 3) := by decide +kernel
theorem d_la_law_423 : decode b_la_law 423 = .ok (.istore 5, 2) := by decide +kernel
theorem d_la_law_425 : decode b_la_law 425 = .ok (.aload_n 2, 1) := by decide +kernel
theorem d_la_law_426 : decode b_la_law 426 = .ok (.aload_n 0, 1) := by decide +kernel
theorem d_la_law_427 : decode b_la_law 427 = .ok (.iload 4, 2) := by decide +kernel
theorem d_la_law_429 : decode b_la_law 429 = .ok (.iconst 1, 1) := by decide +kernel
theorem d_la_law_430 : decode b_la_law 430 = .ok (.iadd, 1) := by decide +kernel
theorem d_la_law_431 : decode b_la_law 431 = .ok (.iaload, 1) := by decide +kernel
theorem d_la_law_432 : decode b_la_law 432 = .ok (.aload_n 0, 1) := by decide +kernel
theorem d_la_law_433 : decode b_la_law 433 = .ok (.iload 4, 2) := by decide +kernel
theorem d_la_law_435 : decode b_la_law 435 = .ok (.iconst 2, 1) := by decide +kernel
theorem d_la_law_436 : decode b_la_law 436 = .ok (.iadd, 1) := by decide +kernel
theorem d_la_law_437 : decode b_la_law 437 = .ok (.iaload, 1) := by decide +kernel
theorem d_la_law_438 : decode b_la_law 438 = .ok (.invokevirtual 88, 3) := by decide +kernel
theorem d_la_law_441 : decode b_la_law 441 = .ok (.aload_n 2, 1) := by decide +kernel
theorem d_la_law_442 : decode b_la_law 442 = .ok (.invokevirtual 66, 3) := by decide +kernel
theorem d_la_law_445 : decode b_la_law 445 = .ok (.iload 5, 2) := by decide +kernel
theorem d_la_law_447 : decode b_la_law 447 = .ok (.if_icmp .eq 5, 3) := by decide +kernel
theorem d_la_law_450 : decode b_la_law 450 = .ok (.iconst 0, 1) := by decide +kernel
theorem d_la_law_451 : decode b_la_law 451 = .ok (.ireturn, 1) := by decide +kernel
theorem d_la_law_452 : decode b_la_law 452 = .ok (.goto 239, 3) := by decide +kernel
theorem d_la_law_455 : decode b_la_law 455 = .ok (.aload_n 1, 1) := by decide +kernel
theorem d_la_law_456 : decode b_la_law 456 = .ok (.invokevirtual 89, 3) := by decide +kernel
theorem d_la_law_459 : decode b_la_law 459 = .ok (.aload_n 2, 1) := by decide +kernel
theorem d_la_law_460 : decode b_la_law 460 = .ok (.invokevirtual 92, 3) := by decide +kernel
theorem d_la_law_463 : decode b_la_law 463 = .ok (.if_icmp .eq 228, 3) := by decide +kernel
theorem d_la_law_466 : decode b_la_law 466 = .ok (.iconst 0, 1) := by decide +kernel
theorem d_la_law_467 : decode b_la_law 467 = .ok (.ireturn, 1) := by decide +kernel
theorem d_la_law_468 : decode b_la_law 468 = .ok (.aload_n 1, 1) := by decide +kernel
theorem d_la_law_469 : decode b_la_law 469 = .ok (.aload_n 0, 1) := by decide +kernel
theorem d_la_law_470 : decode b_la_law 470 = .ok (.iload 4, 2) := by decide +kernel
theorem d_la_law_472 : decode b_la_law 472 = .ok (.iconst 1, 1) := by decide +kernel
theorem d_la_law_473 : decode b_la_law 473 = .ok (.iadd, 1) := by decide +kernel
theorem d_la_law_474 : decode b_la_law 474 = .ok (.iaload, 1) := by decide +kernel
theorem d_la_law_475 : decode b_la_law 475 = .ok (.aload_n 3, 1) := by decide +kernel
theorem d_la_law_476 : decode b_la_law 476 = .ok (.invokestatic 93, 3) := by decide +kernel
theorem d_la_law_479 : decode b_la_law 479 = .ok (.istore 5, 2) := by decide +kernel
theorem d_la_law_481 : decode b_la_law 481 = .ok (.aload_n 2, 1) := by decide +kernel
theorem d_la_law_482 : decode b_la_law 482 = .ok (.aload_n 0, 1) := by decide +kernel
theorem d_la_law_483 : decode b_la_law 483 = .ok (.iload 4, 2) := by decide +kernel
theorem d_la_law_485 : decode b_la_law 485 = .ok (.iconst 1, 1) := by decide +kernel
theorem d_la_law_486 : decode b_la_law 486 = .ok (.iadd, 1) := by decide +kernel
theorem d_la_law_487 : decode b_la_law 487 = .ok (.iaload, 1) := by decide +kernel
theorem d_la_law_488 : decode b_la_law 488 = .ok (.invokevirtual 95, 3) := by decide +kernel
theorem d_la_law_491 : decode b_la_law 491 = .ok (.istore 6, 2) := by decide +kernel
theorem d_la_law_493 : decode b_la_law 493 = .ok (.aload_n 2, 1) := by decide +kernel
theorem d_la_law_494 : decode b_la_law 494 = .ok (.invokevirtual 66, 3) := by decide +kernel
theorem d_la_law_497 : decode b_la_law 497 = .ok (.iload 5, 2) := by decide +kernel
theorem d_la_law_499 : decode b_la_law 499 = .ok (.if_icmp .eq 5, 3) := by decide +kernel
theorem d_la_law_502 : decode b_la_law 502 = .ok (.iconst 0, 1) := by decide +kernel
theorem d_la_law_503 : decode b_la_law 503 = .ok (.ireturn, 1) := by decide +kernel
theorem d_la_law_504 : decode b_la_law 504 = .ok (.iload 5, 2) := by decide +kernel
theorem d_la_law_506 : decode b_la_law 506 = .ok (.ifCond .ne 15, 3) := by decide +kernel
theorem d_la_law_509 : decode b_la_law 509 = .ok (.aload_n 3, 1) := by decide +kernel
theorem d_la_law_510 : decode b_la_law 510 = .ok (.iconst 0, 1) := by decide +kernel
theorem d_la_law_511 : decode b_la_law 511 = .ok (.laload, 1) := by decide +kernel
theorem d_la_law_512 : decode b_la_law 512 = .ok (.iload 6, 2) := by decide +kernel
theorem d_la_law_514 : decode b_la_law 514 = .ok (.i2l, 1) := by decide +kernel
theorem d_la_law_515 : decode b_la_law 515 = .ok (.lcmp, 1) := by decide +kernel
theorem d_la_law_516 : decode b_la_law 516 = .ok (.ifCond .eq 5, 3) := by decide +kernel
theorem d_la_law_519 : decode b_la_law 519 = .ok (.iconst 0, 1) := by decide +kernel
theorem d_la_law_520 : decode b_la_law 520 = .ok (.ireturn, 1) := by decide +kernel
theorem d_la_law_521 : decode b_la_law 521 = .ok (.goto 170, 3) := by decide +kernel
theorem d_la_law_524 : decode b_la_law 524 = .ok (.aload_n 1, 1) := by decide +kernel
theorem d_la_law_525 : decode b_la_law 525 = .ok (.aload_n 0, 1) := by decide +kernel
theorem d_la_law_526 : decode b_la_law 526 = .ok (.iload 4, 2) := by decide +kernel
theorem d_la_law_528 : decode b_la_law 528 = .ok (.iconst 1, 1) := by decide +kernel
theorem d_la_law_529 : decode b_la_law 529 = .ok (.iadd, 1) := by decide +kernel
theorem d_la_law_530 : decode b_la_law 530 = .ok (.iaload, 1) := by decide +kernel
theorem d_la_law_531 : decode b_la_law 531 = .ok (.ifCond .eq 7, 3) := by decide +kernel
theorem d_la_law_534 : decode b_la_law 534 = .ok (.iconst 1, 1) := by decide +kernel
theorem d_la_law_535 : decode b_la_law 535 = .ok (.goto 4, 3) := by decide +kernel
theorem d_la_law_538 : decode b_la_law 538 = .ok (.iconst 0, 1) := by decide +kernel
theorem d_la_law_539 : decode b_la_law 539 = .ok (.aload_n 3, 1) := by decide +kernel
theorem d_la_law_540 : decode b_la_law 540 = .ok (.invokestatic 96, 3) := by decide +kernel
theorem d_la_law_543 : decode b_la_law 543 = .ok (.istore 5, 2) := by decide +kernel
theorem d_la_law_545 : decode b_la_law 545 = .ok (.aload_n 2, 1) := by decide +kernel
theorem d_la_law_546 : decode b_la_law 546 = .ok (.aload_n 0, 1) := by decide +kernel
theorem d_la_law_547 : decode b_la_law 547 = .ok (.iload 4, 2) := by decide +kernel
theorem d_la_law_549 : decode b_la_law 549 = .ok (.iconst 1, 1) := by decide +kernel
theorem d_la_law_550 : decode b_la_law 550 = .ok (.iadd, 1) := by decide +kernel
theorem d_la_law_551 : decode b_la_law 551 = .ok (.iaload, 1) := by decide +kernel
theorem d_la_law_552 : decode b_la_law 552 = .ok (.ifCond .eq 7, 3) := by decide +kernel
theorem d_la_law_555 : decode b_la_law 555 = .ok (.iconst 1, 1) := by decide +kernel
theorem d_la_law_556 : decode b_la_law 556 = .ok (.goto 4, 3) := by decide +kernel
theorem d_la_law_559 : decode b_la_law 559 = .ok (.iconst 0, 1) := by decide +kernel
theorem d_la_law_560 : decode b_la_law 560 = .ok (.invokevirtual 99, 3) := by decide +kernel
theorem d_la_law_563 : decode b_la_law 563 = .ok (.istore 6, 2) := by decide +kernel
theorem d_la_law_565 : decode b_la_law 565 = .ok (.aload_n 2, 1) := by decide +kernel
theorem d_la_law_566 : decode b_la_law 566 = .ok (.invokevirtual 66, 3) := by decide +kernel
theorem d_la_law_569 : decode b_la_law 569 = .ok (.iload 5, 2) := by decide +kernel
theorem d_la_law_571 : decode b_la_law 571 = .ok (.if_icmp .eq 5, 3) := by decide +kernel
theorem d_la_law_574 : decode b_la_law 574 = .ok (.iconst 0, 1) := by decide +kernel
theorem d_la_law_575 : decode b_la_law 575 = .ok (.ireturn, 1) := by decide +kernel
theorem d_la_law_576 : decode b_la_law 576 = .ok (.iload 5, 2) := by decide +kernel
theorem d_la_law_578 : decode b_la_law 578 = .ok (.ifCond .ne 15, 3) := by decide +kernel
theorem d_la_law_581 : decode b_la_law 581 = .ok (.aload_n 3, 1) := by decide +kernel
theorem d_la_law_582 : decode b_la_law 582 = .ok (.iconst 0, 1) := by decide +kernel
theorem d_la_law_583 : decode b_la_law 583 = .ok (.laload, 1) := by decide +kernel
theorem d_la_law_584 : decode b_la_law 584 = .ok (.iload 6, 2) := by decide +kernel
theorem d_la_law_586 : decode b_la_law 586 = .ok (.i2l, 1) := by decide +kernel
theorem d_la_law_587 : decode b_la_law 587 = .ok (.lcmp, 1) := by decide +kernel
theorem d_la_law_588 : decode b_la_law 588 = .ok (.ifCond .eq 5, 3) := by decide +kernel
theorem d_la_law_591 : decode b_la_law 591 = .ok (.iconst 0, 1) := by decide +kernel
theorem d_la_law_592 : decode b_la_law 592 = .ok (.ireturn, 1) := by decide +kernel
theorem d_la_law_593 : decode b_la_law 593 = .ok (.goto 98, 3) := by decide +kernel
theorem d_la_law_596 : decode b_la_law 596 = .ok (.aload_n 1, 1) := by decide +kernel
theorem d_la_law_597 : decode b_la_law 597 = .ok (.invokevirtual 100, 3) := by decide +kernel
theorem d_la_law_600 : decode b_la_law 600 = .ok (.aload_n 2, 1) := by decide +kernel
theorem d_la_law_601 : decode b_la_law 601 = .ok (.invokevirtual 103, 3) := by decide +kernel
theorem d_la_law_604 : decode b_la_law 604 = .ok (.if_icmp .eq 87, 3) := by decide +kernel
theorem d_la_law_607 : decode b_la_law 607 = .ok (.iconst 0, 1) := by decide +kernel
theorem d_la_law_608 : decode b_la_law 608 = .ok (.ireturn, 1) := by decide +kernel
theorem d_la_law_609 : decode b_la_law 609 = .ok (.aload_n 1, 1) := by decide +kernel
theorem d_la_law_610 : decode b_la_law 610 = .ok (.invokevirtual 104, 3) := by decide +kernel
theorem d_la_law_613 : decode b_la_law 613 = .ok (.aload_n 2, 1) := by decide +kernel
theorem d_la_law_614 : decode b_la_law 614 = .ok (.invokevirtual 107, 3) := by decide +kernel
theorem d_la_law_617 : decode b_la_law 617 = .ok (.if_icmp .eq 74, 3) := by decide +kernel
theorem d_la_law_620 : decode b_la_law 620 = .ok (.iconst 0, 1) := by decide +kernel
theorem d_la_law_621 : decode b_la_law 621 = .ok (.ireturn, 1) := by decide +kernel
theorem d_la_law_622 : decode b_la_law 622 = .ok (.aload_n 1, 1) := by decide +kernel
theorem d_la_law_623 : decode b_la_law 623 = .ok (.invokevirtual 108, 3) := by decide +kernel
theorem d_la_law_626 : decode b_la_law 626 = .ok (.aload_n 2, 1) := by decide +kernel
theorem d_la_law_627 : decode b_la_law 627 = .ok (.invokevirtual 111, 3) := by decide +kernel
theorem d_la_law_630 : decode b_la_law 630 = .ok (.if_icmp .eq 61, 3) := by decide +kernel
theorem d_la_law_633 : decode b_la_law 633 = .ok (.iconst 0, 1) := by decide +kernel
theorem d_la_law_634 : decode b_la_law 634 = .ok (.ireturn, 1) := by decide +kernel
theorem d_la_law_635 : decode b_la_law 635 = .ok (.aload_n 1, 1) := by decide +kernel
theorem d_la_law_636 : decode b_la_law 636 = .ok (.aload_n 0, 1) := by decide +kernel
theorem d_la_law_637 : decode b_la_law 637 = .ok (.iload 4, 2) := by decide +kernel
theorem d_la_law_639 : decode b_la_law 639 = .ok (.iconst 1, 1) := by decide +kernel
theorem d_la_law_640 : decode b_la_law 640 = .ok (.iadd, 1) := by decide +kernel
theorem d_la_law_641 : decode b_la_law 641 = .ok (.iaload, 1) := by decide +kernel
theorem d_la_law_642 : decode b_la_law 642 = .ok (.aload_n 3, 1) := by decide +kernel
theorem d_la_law_643 : decode b_la_law 643 = .ok (.invokestatic 112, 3) := by decide +kernel
theorem d_la_law_646 : decode b_la_law 646 = .ok (.istore 5, 2) := by decide +kernel
theorem d_la_law_648 : decode b_la_law 648 = .ok (.aload_n 2, 1) := by decide +kernel
theorem d_la_law_649 : decode b_la_law 649 = .ok (.aload_n 0, 1) := by decide +kernel
theorem d_la_law_650 : decode b_la_law 650 = .ok (.iload 4, 2) := by decide +kernel
theorem d_la_law_652 : decode b_la_law 652 = .ok (.iconst 1, 1) := by decide +kernel
theorem d_la_law_653 : decode b_la_law 653 = .ok (.iadd, 1) := by decide +kernel
theorem d_la_law_654 : decode b_la_law 654 = .ok (.iaload, 1) := by decide +kernel
theorem d_la_law_655 : decode b_la_law 655 = .ok (.invokevirtual 114, 3) := by decide +kernel
theorem d_la_law_658 : decode b_la_law 658 = .ok (.istore 6, 2) := by decide +kernel
theorem d_la_law_660 : decode b_la_law 660 = .ok (.aload_n 2, 1) := by decide +kernel
theorem d_la_law_661 : decode b_la_law 661 = .ok (.invokevirtual 66, 3) := by decide +kernel
theorem d_la_law_664 : decode b_la_law 664 = .ok (.iload 5, 2) := by decide +kernel
theorem d_la_law_666 : decode b_la_law 666 = .ok (.if_icmp .eq 5, 3) := by decide +kernel
theorem d_la_law_669 : decode b_la_law 669 = .ok (.iconst 0, 1) := by decide +kernel
theorem d_la_law_670 : decode b_la_law 670 = .ok (.ireturn, 1) := by decide +kernel
theorem d_la_law_671 : decode b_la_law 671 = .ok (.iload 5, 2) := by decide +kernel
theorem d_la_law_673 : decode b_la_law 673 = .ok (.ifCond .ne 15, 3) := by decide +kernel
theorem d_la_law_676 : decode b_la_law 676 = .ok (.aload_n 3, 1) := by decide +kernel
theorem d_la_law_677 : decode b_la_law 677 = .ok (.iconst 0, 1) := by decide +kernel
theorem d_la_law_678 : decode b_la_law 678 = .ok (.laload, 1) := by decide +kernel
theorem d_la_law_679 : decode b_la_law 679 = .ok (.iload 6, 2) := by decide +kernel
theorem d_la_law_681 : decode b_la_law 681 = .ok (.i2l, 1) := by decide +kernel
theorem d_la_law_682 : decode b_la_law 682 = .ok (.lcmp, 1) := by decide +kernel
theorem d_la_law_683 : decode b_la_law 683 = .ok (.ifCond .eq 5, 3) := by decide +kernel
theorem d_la_law_686 : decode b_la_law 686 = .ok (.iconst 0, 1) := by decide +kernel
theorem d_la_law_687 : decode b_la_law 687 = .ok (.ireturn, 1) := by decide +kernel
theorem d_la_law_688 : decode b_la_law 688 = .ok (.goto 3, 3) := by decide +kernel
theorem d_la_law_691 : decode b_la_law 691 = .ok (.iinc 4 4, 3) := by decide +kernel
theorem d_la_law_694 : decode b_la_law 694 = .ok (.goto (-661), 3) := by decide +kernel
theorem d_la_law_697 : decode b_la_law 697 = .ok (.iconst 1, 1) := by decide +kernel
theorem d_la_law_698 : decode b_la_law 698 = .ok (.ireturn, 1) := by decide +kernel
