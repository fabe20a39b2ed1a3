theorem d_th_init_0 : decode b_th_init 0 = .ok (.aload_n 0, 1) := by decide +kernel
theorem d_th_init_1 : decode b_th_init 1 = .ok (.invokespecial 1, 3) := by decide +kernel
theorem d_th_init_4 : decode b_th_init 4 = .ok (.aload_n 0, 1) := by decide +kernel
theorem d_th_init_5 : decode b_th_init 5 = .ok (.new 7, 3) := by decide +kernel
theorem d_th_init_8 : decode b_th_init 8 = .ok (.dup, 1) := by decide +kernel
theorem d_th_init_9 : decode b_th_init 9 = .ok (.iload_n 1, 1) := by decide +kernel
theorem d_th_init_10 : decode b_th_init 10 = .ok (.invokespecial 9, 3) := by decide +kernel
theorem d_th_init_13 : decode b_th_init 13 = .ok (.putfield 12, 3) := by decide +kernel
theorem d_th_init_16 : decode b_th_init 16 = .ok (.aload_n 0, 1) := by decide +kernel
theorem d_th_init_17 : decode b_th_init 17 = .ok (.new 18, 3) := by decide +kernel
theorem d_th_init_20 : decode b_th_init 20 = .ok (.dup, 1) := by decide +kernel
theorem d_th_init_21 : decode b_th_init 21 = .ok (.aload_n 0, 1) := by decide +kernel
theorem d_th_init_22 : decode b_th_init 22 = .ok (.getfield 12, 3) := by decide +kernel
theorem d_th_init_25 : decode b_th_init 25 = .ok (.invokespecial 20, 3) := by decide +kernel
theorem d_th_init_28 : decode b_th_init 28 = .ok (.putfield 23, 3) := by decide +kernel
theorem d_th_init_31 : decode b_th_init 31 = .ok (.aload_n 0, 1) := by decide +kernel
theorem d_th_init_32 : decode b_th_init 32 = .ok (.iconst 3, 1) := by decide +kernel
theorem d_th_init_33 : decode b_th_init 33 = .ok (.putfield 27, 3) := by decide +kernel
theorem d_th_init_36 : decode b_th_init 36 = .ok (.aload_n 0, 1) := by decide +kernel
theorem d_th_init_37 : decode b_th_init 37 = .ok (.iconst 0, 1) := by decide +kernel
theorem d_th_init_38 : decode b_th_init 38 = .ok (.putfield 31, 3) := by decide +kernel
theorem d_th_init_41 : decode b_th_init 41 = .ok (.return_, 1) := by decide +kernel
theorem d_th_lines_0 : decode b_th_lines 0 = .ok (.aload_n 0, 1) := by decide +kernel
theorem d_th_lines_1 : decode b_th_lines 1 = .ok (.getfield 12, 3) := by decide +kernel
theorem d_th_lines_4 : decode b_th_lines 4 = .ok (.getfield 34, 3) := by decide +kernel
theorem d_th_lines_7 : decode b_th_lines 7 = .ok (.iload_n 1, 1) := by decide +kernel
theorem d_th_lines_8 : decode b_th_lines 8 = .ok (.invokevirtual 38, 3) := by decide +kernel
theorem d_th_lines_11 : decode b_th_lines 11 = .ok (.aload_n 0, 1) := by decide +kernel
theorem d_th_lines_12 : decode b_th_lines 12 = .ok (.getfield 12, 3) := by decide +kernel
theorem d_th_lines_15 : decode b_th_lines 15 = .ok (.getfield 34, 3) := by decide +kernel
theorem d_th_lines_18 : decode b_th_lines 18 = .ok (.getfield 43, 3) := by decide +kernel
theorem d_th_lines_21 : decode b_th_lines 21 = .ok (.ireturn, 1) := by decide +kernel
theorem d_th_ticks_0 : decode b_th_ticks 0 = .ok (.iload_n 1, 1) := by decide +kernel
theorem d_th_ticks_1 : decode b_th_ticks 1 = .ok (.ifCond .ge 13, 3) := by decide +kernel
theorem d_th_ticks_4 : decode b_th_ticks 4 = .ok (.new 46, 3) := by decide +kernel
theorem d_th_ticks_7 : decode b_th_ticks 7 = .ok (.dup, 1) := by decide +kernel
theorem d_th_ticks_8 : decode b_th_ticks 8 = .ok (.ldc 48, 2) := by decide +kernel
theorem d_th_ticks_10 : decode b_th_ticks 10 = .ok (.invokespecial 50, 3) := by decide +kernel
theorem d_th_ticks_13 : decode b_th_ticks 13 = .ok (.athrow, 1) := by decide +kernel
theorem d_th_ticks_14 : decode b_th_ticks 14 = .ok (.aload_n 0, 1) := by decide +kernel
theorem d_th_ticks_15 : decode b_th_ticks 15 = .ok (.getfield 12, 3) := by decide +kernel
theorem d_th_ticks_18 : decode b_th_ticks 18 = .ok (.getfield 53, 3) := by decide +kernel
theorem d_th_ticks_21 : decode b_th_ticks 21 = .ok (.dup, 1) := by decide +kernel
theorem d_th_ticks_22 : decode b_th_ticks 22 = .ok (.getfield 57, 3) := by decide +kernel
theorem d_th_ticks_25 : decode b_th_ticks 25 = .ok (.iload_n 1, 1) := by decide +kernel
theorem d_th_ticks_26 : decode b_th_ticks 26 = .ok (.i2l, 1) := by decide +kernel
theorem d_th_ticks_27 : decode b_th_ticks 27 = .ok (.ladd, 1) := by decide +kernel
theorem d_th_ticks_28 : decode b_th_ticks 28 = .ok (.putfield 57, 3) := by decide +kernel
theorem d_th_ticks_31 : decode b_th_ticks 31 = .ok (.return_, 1) := by decide +kernel
theorem d_th_load_0 : decode b_th_load 0 = .ok (.iload_n 1, 1) := by decide +kernel
theorem d_th_load_1 : decode b_th_load 1 = .ok (.iconst 0, 1) := by decide +kernel
theorem d_th_load_2 : decode b_th_load 2 = .ok (.invokestatic 63, 3) := by decide +kernel
theorem d_th_load_5 : decode b_th_load 5 = .ok (.invokestatic 67, 3) := by decide +kernel
theorem d_th_load_8 : decode b_th_load 8 = .ok (.aload_n 0, 1) := by decide +kernel
theorem d_th_load_9 : decode b_th_load 9 = .ok (.getfield 12, 3) := by decide +kernel
theorem d_th_load_12 : decode b_th_load 12 = .ok (.iload_n 1, 1) := by decide +kernel
theorem d_th_load_13 : decode b_th_load 13 = .ok (.invokevirtual 70, 3) := by decide +kernel
theorem d_th_load_16 : decode b_th_load 16 = .ok (.ireturn, 1) := by decide +kernel
theorem d_th_store_0 : decode b_th_store 0 = .ok (.iload_n 1, 1) := by decide +kernel
theorem d_th_store_1 : decode b_th_store 1 = .ok (.iconst 1, 1) := by decide +kernel
theorem d_th_store_2 : decode b_th_store 2 = .ok (.invokestatic 63, 3) := by decide +kernel
theorem d_th_store_5 : decode b_th_store 5 = .ok (.istore_n 3, 1) := by decide +kernel
theorem d_th_store_6 : decode b_th_store 6 = .ok (.iload_n 3, 1) := by decide +kernel
theorem d_th_store_7 : decode b_th_store 7 = .ok (.invokestatic 67, 3) := by decide +kernel
theorem d_th_store_10 : decode b_th_store 10 = .ok (.iload_n 3, 1) := by decide +kernel
theorem d_th_store_11 : decode b_th_store 11 = .ok (.iconst 3, 1) := by decide +kernel
theorem d_th_store_12 : decode b_th_store 12 = .ok (.if_icmp .ne 13, 3) := by decide +kernel
theorem d_th_store_15 : decode b_th_store 15 = .ok (.new 74, 3) := by decide +kernel
theorem d_th_store_18 : decode b_th_store 18 = .ok (.dup, 1) := by decide +kernel
theorem d_th_store_19 : decode b_th_store 19 = .ok (.ldc 76, 2) := by decide +kernel
theorem d_th_store_21 : decode b_th_store 21 = .ok (.invokespecial 78, 3) := by decide +kernel
theorem d_th_store_24 : decode b_th_store 24 = .ok (.athrow, 1) := by decide +kernel
theorem d_th_store_25 : decode b_th_store 25 = .ok (.aload_n 0, 1) := by decide +kernel
theorem d_th_store_26 : decode b_th_store 26 = .ok (.getfield 12, 3) := by decide +kernel
theorem d_th_store_29 : decode b_th_store 29 = .ok (.iload_n 1, 1) := by decide +kernel
theorem d_th_store_30 : decode b_th_store 30 = .ok (.iload_n 2, 1) := by decide +kernel
theorem d_th_store_31 : decode b_th_store 31 = .ok (.invokevirtual 79, 3) := by decide +kernel
theorem d_th_store_34 : decode b_th_store 34 = .ok (.return_, 1) := by decide +kernel
theorem d_th_access_0 : decode b_th_access 0 = .ok (.iload_n 1, 1) := by decide +kernel
theorem d_th_access_1 : decode b_th_access 1 = .ok (.iload_n 2, 1) := by decide +kernel
theorem d_th_access_2 : decode b_th_access 2 = .ok (.invokestatic 63, 3) := by decide +kernel
theorem d_th_access_5 : decode b_th_access 5 = .ok (.istore 4, 2) := by decide +kernel
theorem d_th_access_7 : decode b_th_access 7 = .ok (.iload 4, 2) := by decide +kernel
theorem d_th_access_9 : decode b_th_access 9 = .ok (.ifCond .eq 26, 3) := by decide +kernel
theorem d_th_access_12 : decode b_th_access 12 = .ok (.iload 4, 2) := by decide +kernel
theorem d_th_access_14 : decode b_th_access 14 = .ok (.iload_n 2, 1) := by decide +kernel
theorem d_th_access_15 : decode b_th_access 15 = .ok (.invokestatic 83, 3) := by decide +kernel
theorem d_th_access_18 : decode b_th_access 18 = .ok (.istore 5, 2) := by decide +kernel
theorem d_th_access_20 : decode b_th_access 20 = .ok (.aload_n 0, 1) := by decide +kernel
theorem d_th_access_21 : decode b_th_access 21 = .ok (.iload 5, 2) := by decide +kernel
theorem d_th_access_23 : decode b_th_access 23 = .ok (.iconst 0, 1) := by decide +kernel
theorem d_th_access_24 : decode b_th_access 24 = .ok (.invokevirtual 86, 3) := by decide +kernel
theorem d_th_access_27 : decode b_th_access 27 = .ok (.ldc2_w 90, 3) := by decide +kernel
theorem d_th_access_30 : decode b_th_access 30 = .ok (.iload 5, 2) := by decide +kernel
theorem d_th_access_32 : decode b_th_access 32 = .ok (.i2l, 1) := by decide +kernel
theorem d_th_access_33 : decode b_th_access 33 = .ok (.lsub, 1) := by decide +kernel
theorem d_th_access_34 : decode b_th_access 34 = .ok (.lreturn, 1) := by decide +kernel
theorem d_th_access_35 : decode b_th_access 35 = .ok (.lconst 0, 1) := by decide +kernel
theorem d_th_access_36 : decode b_th_access 36 = .ok (.lstore 5, 2) := by decide +kernel
theorem d_th_access_38 : decode b_th_access 38 = .ok (.iload_n 2, 1) := by decide +kernel
theorem d_th_access_39 : decode b_th_access 39 = .ok (.ifCond .eq 15, 3) := by decide +kernel
theorem d_th_access_42 : decode b_th_access 42 = .ok (.aload_n 0, 1) := by decide +kernel
theorem d_th_access_43 : decode b_th_access 43 = .ok (.getfield 12, 3) := by decide +kernel
theorem d_th_access_46 : decode b_th_access 46 = .ok (.iload_n 1, 1) := by decide +kernel
theorem d_th_access_47 : decode b_th_access 47 = .ok (.iload_n 3, 1) := by decide +kernel
theorem d_th_access_48 : decode b_th_access 48 = .ok (.invokevirtual 79, 3) := by decide +kernel
theorem d_th_access_51 : decode b_th_access 51 = .ok (.goto 18, 3) := by decide +kernel
theorem d_th_access_54 : decode b_th_access 54 = .ok (.aload_n 0, 1) := by decide +kernel
theorem d_th_access_55 : decode b_th_access 55 = .ok (.getfield 12, 3) := by decide +kernel
theorem d_th_access_58 : decode b_th_access 58 = .ok (.iload_n 1, 1) := by decide +kernel
theorem d_th_access_59 : decode b_th_access 59 = .ok (.invokevirtual 70, 3) := by decide +kernel
theorem d_th_access_62 : decode b_th_access 62 = .ok (.i2l, 1) := by decide +kernel
theorem d_th_access_63 : decode b_th_access 63 = .ok (.ldc2_w 92, 3) := by decide +kernel
theorem d_th_access_66 : decode b_th_access 66 = .ok (.land, 1) := by decide +kernel
theorem d_th_access_67 : decode b_th_access 67 = .ok (.lstore 5, 2) := by decide +kernel
theorem d_th_access_69 : decode b_th_access 69 = .ok (.aload_n 0, 1) := by decide +kernel
theorem d_th_access_70 : decode b_th_access 70 = .ok (.dup, 1) := by decide +kernel
theorem d_th_access_71 : decode b_th_access 71 = .ok (.getfield 31, 3) := by decide +kernel
theorem d_th_access_74 : decode b_th_access 74 = .ok (.iconst 4, 1) := by decide +kernel
theorem d_th_access_75 : decode b_th_access 75 = .ok (.iadd, 1) := by decide +kernel
theorem d_th_access_76 : decode b_th_access 76 = .ok (.putfield 31, 3) := by decide +kernel
theorem d_th_access_79 : decode b_th_access 79 = .ok (.lload 5, 2) := by decide +kernel
theorem d_th_access_81 : decode b_th_access 81 = .ok (.lreturn, 1) := by decide +kernel
theorem d_th_read_0 : decode b_th_read 0 = .ok (.aload_n 0, 1) := by decide +kernel
theorem d_th_read_1 : decode b_th_read 1 = .ok (.iload_n 1, 1) := by decide +kernel
theorem d_th_read_2 : decode b_th_read 2 = .ok (.invokevirtual 94, 3) := by decide +kernel
theorem d_th_read_5 : decode b_th_read 5 = .ok (.aload_n 0, 1) := by decide +kernel
theorem d_th_read_6 : decode b_th_read 6 = .ok (.getfield 23, 3) := by decide +kernel
theorem d_th_read_9 : decode b_th_read 9 = .ok (.iload_n 1, 1) := by decide +kernel
theorem d_th_read_10 : decode b_th_read 10 = .ok (.invokevirtual 97, 3) := by decide +kernel
theorem d_th_read_13 : decode b_th_read 13 = .ok (.ireturn, 1) := by decide +kernel
theorem d_th_write_0 : decode b_th_write 0 = .ok (.aload_n 0, 1) := by decide +kernel
theorem d_th_write_1 : decode b_th_write 1 = .ok (.iload_n 1, 1) := by decide +kernel
theorem d_th_write_2 : decode b_th_write 2 = .ok (.invokevirtual 94, 3) := by decide +kernel
theorem d_th_write_5 : decode b_th_write 5 = .ok (.aload_n 0, 1) := by decide +kernel
theorem d_th_write_6 : decode b_th_write 6 = .ok (.getfield 23, 3) := by decide +kernel
theorem d_th_write_9 : decode b_th_write 9 = .ok (.iload_n 1, 1) := by decide +kernel
theorem d_th_write_10 : decode b_th_write 10 = .ok (.iload_n 2, 1) := by decide +kernel
theorem d_th_write_11 : decode b_th_write 11 = .ok (.invokevirtual 100, 3) := by decide +kernel
theorem d_th_write_14 : decode b_th_write 14 = .ok (.return_, 1) := by decide +kernel
theorem d_th_step_0 : decode b_th_step 0 = .ok (.aload_n 0, 1) := by decide +kernel
theorem d_th_step_1 : decode b_th_step 1 = .ok (.invokevirtual 103, 3) := by decide +kernel
theorem d_th_step_4 : decode b_th_step 4 = .ok (.istore_n 1, 1) := by decide +kernel
theorem d_th_step_5 : decode b_th_step 5 = .ok (.iload_n 1, 1) := by decide +kernel
theorem d_th_step_6 : decode b_th_step 6 = .ok (.iconst (-1), 1) := by decide +kernel
theorem d_th_step_7 : decode b_th_step 7 = .ok (.if_icmp .ne 16, 3) := by decide +kernel
theorem d_th_step_10 : decode b_th_step 10 = .ok (.aload_n 0, 1) := by decide +kernel
theorem d_th_step_11 : decode b_th_step 11 = .ok (.dup, 1) := by decide +kernel
theorem d_th_step_12 : decode b_th_step 12 = .ok (.getfield 31, 3) := by decide +kernel
theorem d_th_step_15 : decode b_th_step 15 = .ok (.iconst 4, 1) := by decide +kernel
theorem d_th_step_16 : decode b_th_step 16 = .ok (.iadd, 1) := by decide +kernel
theorem d_th_step_17 : decode b_th_step 17 = .ok (.putfield 31, 3) := by decide +kernel
theorem d_th_step_20 : decode b_th_step 20 = .ok (.goto 9, 3) := by decide +kernel
theorem d_th_step_23 : decode b_th_step 23 = .ok (.aload_n 0, 1) := by decide +kernel
theorem d_th_step_24 : decode b_th_step 24 = .ok (.iload_n 1, 1) := by decide +kernel
theorem d_th_step_25 : decode b_th_step 25 = .ok (.iconst 1, 1) := by decide +kernel
theorem d_th_step_26 : decode b_th_step 26 = .ok (.invokevirtual 86, 3) := by decide +kernel
theorem d_th_step_29 : decode b_th_step 29 = .ok (.iload_n 1, 1) := by decide +kernel
theorem d_th_step_30 : decode b_th_step 30 = .ok (.ireturn, 1) := by decide +kernel
theorem d_th_raise_0 : decode b_th_raise 0 = .ok (.iload_n 1, 1) := by decide +kernel
theorem d_th_raise_1 : decode b_th_raise 1 = .ok (.ifCond .lt 18, 3) := by decide +kernel
theorem d_th_raise_4 : decode b_th_raise 4 = .ok (.iload_n 1, 1) := by decide +kernel
theorem d_th_raise_5 : decode b_th_raise 5 = .ok (.bipush 15, 2) := by decide +kernel
theorem d_th_raise_7 : decode b_th_raise 7 = .ok (.if_icmp .gt 12, 3) := by decide +kernel
theorem d_th_raise_10 : decode b_th_raise 10 = .ok (.ldc 107, 2) := by decide +kernel
theorem d_th_raise_12 : decode b_th_raise 12 = .ok (.iload_n 1, 1) := by decide +kernel
theorem d_th_raise_13 : decode b_th_raise 13 = .ok (.invokestatic 108, 3) := by decide +kernel
theorem d_th_raise_16 : decode b_th_raise 16 = .ok (.ifCond .ne 13, 3) := by decide +kernel
theorem d_th_raise_19 : decode b_th_raise 19 = .ok (.new 46, 3) := by decide +kernel
theorem d_th_raise_22 : decode b_th_raise 22 = .ok (.dup, 1) := by decide +kernel
theorem d_th_raise_23 : decode b_th_raise 23 = .ok (.ldc 112, 2) := by decide +kernel
theorem d_th_raise_25 : decode b_th_raise 25 = .ok (.invokespecial 50, 3) := by decide +kernel
theorem d_th_raise_28 : decode b_th_raise 28 = .ok (.athrow, 1) := by decide +kernel
theorem d_th_raise_29 : decode b_th_raise 29 = .ok (.aload_n 0, 1) := by decide +kernel
theorem d_th_raise_30 : decode b_th_raise 30 = .ok (.iload_n 1, 1) := by decide +kernel
theorem d_th_raise_31 : decode b_th_raise 31 = .ok (.iconst 0, 1) := by decide +kernel
theorem d_th_raise_32 : decode b_th_raise 32 = .ok (.invokevirtual 86, 3) := by decide +kernel
theorem d_th_raise_35 : decode b_th_raise 35 = .ok (.aload_n 0, 1) := by decide +kernel
theorem d_th_raise_36 : decode b_th_raise 36 = .ok (.getfield 27, 3) := by decide +kernel
theorem d_th_raise_39 : decode b_th_raise 39 = .ok (.ireturn, 1) := by decide +kernel
theorem d_th_leave_0 : decode b_th_leave 0 = .ok (.iload_n 1, 1) := by decide +kernel
theorem d_th_leave_1 : decode b_th_leave 1 = .ok (.ifCond .eq 14, 3) := by decide +kernel
theorem d_th_leave_4 : decode b_th_leave 4 = .ok (.aload_n 0, 1) := by decide +kernel
theorem d_th_leave_5 : decode b_th_leave 5 = .ok (.getfield 27, 3) := by decide +kernel
theorem d_th_leave_8 : decode b_th_leave 8 = .ok (.iconst 3, 1) := by decide +kernel
theorem d_th_leave_9 : decode b_th_leave 9 = .ok (.if_icmp .eq 23, 3) := by decide +kernel
theorem d_th_leave_12 : decode b_th_leave 12 = .ok (.goto 10, 3) := by decide +kernel
theorem d_th_leave_15 : decode b_th_leave 15 = .ok (.aload_n 0, 1) := by decide +kernel
theorem d_th_leave_16 : decode b_th_leave 16 = .ok (.getfield 27, 3) := by decide +kernel
theorem d_th_leave_19 : decode b_th_leave 19 = .ok (.ifCond .ne 13, 3) := by decide +kernel
theorem d_th_leave_22 : decode b_th_leave 22 = .ok (.new 114, 3) := by decide +kernel
theorem d_th_leave_25 : decode b_th_leave 25 = .ok (.dup, 1) := by decide +kernel
theorem d_th_leave_26 : decode b_th_leave 26 = .ok (.ldc 116, 2) := by decide +kernel
theorem d_th_leave_28 : decode b_th_leave 28 = .ok (.invokespecial 118, 3) := by decide +kernel
theorem d_th_leave_31 : decode b_th_leave 31 = .ok (.athrow, 1) := by decide +kernel
theorem d_th_leave_32 : decode b_th_leave 32 = .ok (.iload_n 1, 1) := by decide +kernel
theorem d_th_leave_33 : decode b_th_leave 33 = .ok (.ifCond .eq 34, 3) := by decide +kernel
theorem d_th_leave_36 : decode b_th_leave 36 = .ok (.aload_n 0, 1) := by decide +kernel
theorem d_th_leave_37 : decode b_th_leave 37 = .ok (.aload_n 0, 1) := by decide +kernel
theorem d_th_leave_38 : decode b_th_leave 38 = .ok (.getfield 23, 3) := by decide +kernel
theorem d_th_leave_41 : decode b_th_leave 41 = .ok (.getfield 119, 3) := by decide +kernel
theorem d_th_leave_44 : decode b_th_leave 44 = .ok (.invokevirtual 123, 3) := by decide +kernel
theorem d_th_leave_47 : decode b_th_leave 47 = .ok (.putfield 27, 3) := by decide +kernel
theorem d_th_leave_50 : decode b_th_leave 50 = .ok (.aload_n 0, 1) := by decide +kernel
theorem d_th_leave_51 : decode b_th_leave 51 = .ok (.aload_n 0, 1) := by decide +kernel
theorem d_th_leave_52 : decode b_th_leave 52 = .ok (.getfield 23, 3) := by decide +kernel
theorem d_th_leave_55 : decode b_th_leave 55 = .ok (.getfield 128, 3) := by decide +kernel
theorem d_th_leave_58 : decode b_th_leave 58 = .ok (.getfield 132, 3) := by decide +kernel
theorem d_th_leave_61 : decode b_th_leave 61 = .ok (.putfield 31, 3) := by decide +kernel
theorem d_th_leave_64 : decode b_th_leave 64 = .ok (.goto 31, 3) := by decide +kernel
theorem d_th_leave_67 : decode b_th_leave 67 = .ok (.aload_n 0, 1) := by decide +kernel
theorem d_th_leave_68 : decode b_th_leave 68 = .ok (.aload_n 0, 1) := by decide +kernel
theorem d_th_leave_69 : decode b_th_leave 69 = .ok (.getfield 23, 3) := by decide +kernel
theorem d_th_leave_72 : decode b_th_leave 72 = .ok (.getfield 119, 3) := by decide +kernel
theorem d_th_leave_75 : decode b_th_leave 75 = .ok (.invokevirtual 137, 3) := by decide +kernel
theorem d_th_leave_78 : decode b_th_leave 78 = .ok (.putfield 27, 3) := by decide +kernel
theorem d_th_leave_81 : decode b_th_leave 81 = .ok (.aload_n 0, 1) := by decide +kernel
theorem d_th_leave_82 : decode b_th_leave 82 = .ok (.aload_n 0, 1) := by decide +kernel
theorem d_th_leave_83 : decode b_th_leave 83 = .ok (.getfield 23, 3) := by decide +kernel
theorem d_th_leave_86 : decode b_th_leave 86 = .ok (.getfield 140, 3) := by decide +kernel
theorem d_th_leave_89 : decode b_th_leave 89 = .ok (.getfield 132, 3) := by decide +kernel
theorem d_th_leave_92 : decode b_th_leave 92 = .ok (.putfield 31, 3) := by decide +kernel
theorem d_th_leave_95 : decode b_th_leave 95 = .ok (.aload_n 0, 1) := by decide +kernel
theorem d_th_leave_96 : decode b_th_leave 96 = .ok (.getfield 27, 3) := by decide +kernel
theorem d_th_leave_99 : decode b_th_leave 99 = .ok (.ireturn, 1) := by decide +kernel
theorem d_th_privilege_0 : decode b_th_privilege 0 = .ok (.aload_n 0, 1) := by decide +kernel
theorem d_th_privilege_1 : decode b_th_privilege 1 = .ok (.getfield 27, 3) := by decide +kernel
theorem d_th_privilege_4 : decode b_th_privilege 4 = .ok (.ireturn, 1) := by decide +kernel
theorem d_th_pc_0 : decode b_th_pc 0 = .ok (.aload_n 0, 1) := by decide +kernel
theorem d_th_pc_1 : decode b_th_pc 1 = .ok (.getfield 31, 3) := by decide +kernel
theorem d_th_pc_4 : decode b_th_pc 4 = .ok (.ireturn, 1) := by decide +kernel
theorem d_th_due_0 : decode b_th_due 0 = .ok (.aload_n 0, 1) := by decide +kernel
theorem d_th_due_1 : decode b_th_due 1 = .ok (.invokevirtual 103, 3) := by decide +kernel
theorem d_th_due_4 : decode b_th_due 4 = .ok (.ireturn, 1) := by decide +kernel
theorem d_th_source_0 : decode b_th_source 0 = .ok (.iload_n 1, 1) := by decide +kernel
theorem d_th_source_1 : decode b_th_source 1 = .ok (.iconst 1, 1) := by decide +kernel
theorem d_th_source_2 : decode b_th_source 2 = .ok (.if_icmp .lt 9, 3) := by decide +kernel
theorem d_th_source_5 : decode b_th_source 5 = .ok (.iload_n 1, 1) := by decide +kernel
theorem d_th_source_6 : decode b_th_source 6 = .ok (.bipush 15, 2) := by decide +kernel
theorem d_th_source_8 : decode b_th_source 8 = .ok (.if_icmp .le 13, 3) := by decide +kernel
theorem d_th_source_11 : decode b_th_source 11 = .ok (.new 143, 3) := by decide +kernel
theorem d_th_source_14 : decode b_th_source 14 = .ok (.dup, 1) := by decide +kernel
theorem d_th_source_15 : decode b_th_source 15 = .ok (.ldc 145, 2) := by decide +kernel
theorem d_th_source_17 : decode b_th_source 17 = .ok (.invokespecial 147, 3) := by decide +kernel
theorem d_th_source_20 : decode b_th_source 20 = .ok (.athrow, 1) := by decide +kernel
theorem d_th_source_21 : decode b_th_source 21 = .ok (.iconst 4, 1) := by decide +kernel
theorem d_th_source_22 : decode b_th_source 22 = .ok (.aload_n 0, 1) := by decide +kernel
theorem d_th_source_23 : decode b_th_source 23 = .ok (.getfield 12, 3) := by decide +kernel
theorem d_th_source_26 : decode b_th_source 26 = .ok (.getfield 34, 3) := by decide +kernel
theorem d_th_source_29 : decode b_th_source 29 = .ok (.getfield 148, 3) := by decide +kernel
theorem d_th_source_32 : decode b_th_source 32 = .ok (.iload_n 1, 1) := by decide +kernel
theorem d_th_source_33 : decode b_th_source 33 = .ok (.iaload, 1) := by decide +kernel
theorem d_th_source_34 : decode b_th_source 34 = .ok (.imul, 1) := by decide +kernel
theorem d_th_source_35 : decode b_th_source 35 = .ok (.aload_n 0, 1) := by decide +kernel
theorem d_th_source_36 : decode b_th_source 36 = .ok (.getfield 12, 3) := by decide +kernel
theorem d_th_source_39 : decode b_th_source 39 = .ok (.getfield 34, 3) := by decide +kernel
theorem d_th_source_42 : decode b_th_source 42 = .ok (.getfield 152, 3) := by decide +kernel
theorem d_th_source_45 : decode b_th_source 45 = .ok (.iload_n 1, 1) := by decide +kernel
theorem d_th_source_46 : decode b_th_source 46 = .ok (.iaload, 1) := by decide +kernel
theorem d_th_source_47 : decode b_th_source 47 = .ok (.iadd, 1) := by decide +kernel
theorem d_th_source_48 : decode b_th_source 48 = .ok (.ireturn, 1) := by decide +kernel
theorem d_th_refuseWrongOrAbsent_0 : decode b_th_refuseWrongOrAbsent 0 = .ok (.iload_n 0, 1) := by decide +kernel
theorem d_th_refuseWrongOrAbsent_1 : decode b_th_refuseWrongOrAbsent 1 = .ok (.iconst 1, 1) := by decide +kernel
theorem d_th_refuseWrongOrAbsent_2 : decode b_th_refuseWrongOrAbsent 2 = .ok (.if_icmp .ne 13, 3) := by decide +kernel
theorem d_th_refuseWrongOrAbsent_5 : decode b_th_refuseWrongOrAbsent 5 = .ok (.new 46, 3) := by decide +kernel
theorem d_th_refuseWrongOrAbsent_8 : decode b_th_refuseWrongOrAbsent 8 = .ok (.dup, 1) := by decide +kernel
theorem d_th_refuseWrongOrAbsent_9 : decode b_th_refuseWrongOrAbsent 9 = .ok (.ldc 155, 2) := by decide +kernel
theorem d_th_refuseWrongOrAbsent_11 : decode b_th_refuseWrongOrAbsent 11 = .ok (.invokespecial 50, 3) := by decide +kernel
theorem d_th_refuseWrongOrAbsent_14 : decode b_th_refuseWrongOrAbsent 14 = .ok (.athrow, 1) := by decide +kernel
theorem d_th_refuseWrongOrAbsent_15 : decode b_th_refuseWrongOrAbsent 15 = .ok (.iload_n 0, 1) := by decide +kernel
theorem d_th_refuseWrongOrAbsent_16 : decode b_th_refuseWrongOrAbsent 16 = .ok (.iconst 2, 1) := by decide +kernel
theorem d_th_refuseWrongOrAbsent_17 : decode b_th_refuseWrongOrAbsent 17 = .ok (.if_icmp .ne 13, 3) := by decide +kernel
theorem d_th_refuseWrongOrAbsent_20 : decode b_th_refuseWrongOrAbsent 20 = .ok (.new 143, 3) := by decide +kernel
theorem d_th_refuseWrongOrAbsent_23 : decode b_th_refuseWrongOrAbsent 23 = .ok (.dup, 1) := by decide +kernel
theorem d_th_refuseWrongOrAbsent_24 : decode b_th_refuseWrongOrAbsent 24 = .ok (.ldc 157, 2) := by decide +kernel
theorem d_th_refuseWrongOrAbsent_26 : decode b_th_refuseWrongOrAbsent 26 = .ok (.invokespecial 147, 3) := by decide +kernel
theorem d_th_refuseWrongOrAbsent_29 : decode b_th_refuseWrongOrAbsent 29 = .ok (.athrow, 1) := by decide +kernel
theorem d_th_refuseWrongOrAbsent_30 : decode b_th_refuseWrongOrAbsent 30 = .ok (.return_, 1) := by decide +kernel
theorem d_th_refuseRegister_0 : decode b_th_refuseRegister 0 = .ok (.iload_n 1, 1) := by decide +kernel
theorem d_th_refuseRegister_1 : decode b_th_refuseRegister 1 = .ok (.invokestatic 159, 3) := by decide +kernel
theorem d_th_refuseRegister_4 : decode b_th_refuseRegister 4 = .ok (.ifCond .ne 13, 3) := by decide +kernel
theorem d_th_refuseRegister_7 : decode b_th_refuseRegister 7 = .ok (.new 163, 3) := by decide +kernel
theorem d_th_refuseRegister_10 : decode b_th_refuseRegister 10 = .ok (.dup, 1) := by decide +kernel
theorem d_th_refuseRegister_11 : decode b_th_refuseRegister 11 = .ok (.ldc 165, 2) := by decide +kernel
theorem d_th_refuseRegister_13 : decode b_th_refuseRegister 13 = .ok (.invokespecial 167, 3) := by decide +kernel
theorem d_th_refuseRegister_16 : decode b_th_refuseRegister 16 = .ok (.athrow, 1) := by decide +kernel
theorem d_th_refuseRegister_17 : decode b_th_refuseRegister 17 = .ok (.aload_n 0, 1) := by decide +kernel
theorem d_th_refuseRegister_18 : decode b_th_refuseRegister 18 = .ok (.getfield 27, 3) := by decide +kernel
theorem d_th_refuseRegister_21 : decode b_th_refuseRegister 21 = .ok (.ifCond .eq 18, 3) := by decide +kernel
theorem d_th_refuseRegister_24 : decode b_th_refuseRegister 24 = .ok (.aload_n 0, 1) := by decide +kernel
theorem d_th_refuseRegister_25 : decode b_th_refuseRegister 25 = .ok (.getfield 27, 3) := by decide +kernel
theorem d_th_refuseRegister_28 : decode b_th_refuseRegister 28 = .ok (.iconst 3, 1) := by decide +kernel
theorem d_th_refuseRegister_29 : decode b_th_refuseRegister 29 = .ok (.if_icmp .eq 20, 3) := by decide +kernel
theorem d_th_refuseRegister_32 : decode b_th_refuseRegister 32 = .ok (.iload_n 1, 1) := by decide +kernel
theorem d_th_refuseRegister_33 : decode b_th_refuseRegister 33 = .ok (.invokestatic 168, 3) := by decide +kernel
theorem d_th_refuseRegister_36 : decode b_th_refuseRegister 36 = .ok (.ifCond .eq 13, 3) := by decide +kernel
theorem d_th_refuseRegister_39 : decode b_th_refuseRegister 39 = .ok (.new 114, 3) := by decide +kernel
theorem d_th_refuseRegister_42 : decode b_th_refuseRegister 42 = .ok (.dup, 1) := by decide +kernel
theorem d_th_refuseRegister_43 : decode b_th_refuseRegister 43 = .ok (.ldc 116, 2) := by decide +kernel
theorem d_th_refuseRegister_45 : decode b_th_refuseRegister 45 = .ok (.invokespecial 118, 3) := by decide +kernel
theorem d_th_refuseRegister_48 : decode b_th_refuseRegister 48 = .ok (.athrow, 1) := by decide +kernel
theorem d_th_refuseRegister_49 : decode b_th_refuseRegister 49 = .ok (.return_, 1) := by decide +kernel
theorem d_th_causeOf_0 : decode b_th_causeOf 0 = .ok (.iload_n 0, 1) := by decide +kernel
theorem d_th_causeOf_1 : decode b_th_causeOf 1 = .ok (.iconst 1, 1) := by decide +kernel
theorem d_th_causeOf_2 : decode b_th_causeOf 2 = .ok (.if_icmp .ne 14, 3) := by decide +kernel
theorem d_th_causeOf_5 : decode b_th_causeOf 5 = .ok (.iload_n 1, 1) := by decide +kernel
theorem d_th_causeOf_6 : decode b_th_causeOf 6 = .ok (.ifCond .eq 8, 3) := by decide +kernel
theorem d_th_causeOf_9 : decode b_th_causeOf 9 = .ok (.bipush 6, 2) := by decide +kernel
theorem d_th_causeOf_11 : decode b_th_causeOf 11 = .ok (.goto 4, 3) := by decide +kernel
theorem d_th_causeOf_14 : decode b_th_causeOf 14 = .ok (.iconst 4, 1) := by decide +kernel
theorem d_th_causeOf_15 : decode b_th_causeOf 15 = .ok (.ireturn, 1) := by decide +kernel
theorem d_th_causeOf_16 : decode b_th_causeOf 16 = .ok (.iload_n 1, 1) := by decide +kernel
theorem d_th_causeOf_17 : decode b_th_causeOf 17 = .ok (.ifCond .eq 8, 3) := by decide +kernel
theorem d_th_causeOf_20 : decode b_th_causeOf 20 = .ok (.bipush 7, 2) := by decide +kernel
theorem d_th_causeOf_22 : decode b_th_causeOf 22 = .ok (.goto 4, 3) := by decide +kernel
theorem d_th_causeOf_25 : decode b_th_causeOf 25 = .ok (.iconst 5, 1) := by decide +kernel
theorem d_th_causeOf_26 : decode b_th_causeOf 26 = .ok (.ireturn, 1) := by decide +kernel
theorem d_th_interruptToTake_0 : decode b_th_interruptToTake 0 = .ok (.aload_n 0, 1) := by decide +kernel
theorem d_th_interruptToTake_1 : decode b_th_interruptToTake 1 = .ok (.getfield 23, 3) := by decide +kernel
theorem d_th_interruptToTake_4 : decode b_th_interruptToTake 4 = .ok (.invokevirtual 171, 3) := by decide +kernel
theorem d_th_interruptToTake_7 : decode b_th_interruptToTake 7 = .ok (.aload_n 0, 1) := by decide +kernel
theorem d_th_interruptToTake_8 : decode b_th_interruptToTake 8 = .ok (.getfield 23, 3) := by decide +kernel
theorem d_th_interruptToTake_11 : decode b_th_interruptToTake 11 = .ok (.getfield 174, 3) := by decide +kernel
theorem d_th_interruptToTake_14 : decode b_th_interruptToTake 14 = .ok (.iand, 1) := by decide +kernel
theorem d_th_interruptToTake_15 : decode b_th_interruptToTake 15 = .ok (.istore_n 1, 1) := by decide +kernel
theorem d_th_interruptToTake_16 : decode b_th_interruptToTake 16 = .ok (.aload_n 0, 1) := by decide +kernel
theorem d_th_interruptToTake_17 : decode b_th_interruptToTake 17 = .ok (.getfield 27, 3) := by decide +kernel
theorem d_th_interruptToTake_20 : decode b_th_interruptToTake 20 = .ok (.iconst 3, 1) := by decide +kernel
theorem d_th_interruptToTake_21 : decode b_th_interruptToTake 21 = .ok (.if_icmp .ne 16, 3) := by decide +kernel
theorem d_th_interruptToTake_24 : decode b_th_interruptToTake 24 = .ok (.aload_n 0, 1) := by decide +kernel
theorem d_th_interruptToTake_25 : decode b_th_interruptToTake 25 = .ok (.getfield 23, 3) := by decide +kernel
theorem d_th_interruptToTake_28 : decode b_th_interruptToTake 28 = .ok (.getfield 119, 3) := by decide +kernel
theorem d_th_interruptToTake_31 : decode b_th_interruptToTake 31 = .ok (.invokevirtual 177, 3) := by decide +kernel
theorem d_th_interruptToTake_34 : decode b_th_interruptToTake 34 = .ok (.ifCond .eq 25, 3) := by decide +kernel
theorem d_th_interruptToTake_37 : decode b_th_interruptToTake 37 = .ok (.iload_n 1, 1) := by decide +kernel
theorem d_th_interruptToTake_38 : decode b_th_interruptToTake 38 = .ok (.aload_n 0, 1) := by decide +kernel
theorem d_th_interruptToTake_39 : decode b_th_interruptToTake 39 = .ok (.getfield 23, 3) := by decide +kernel
theorem d_th_interruptToTake_42 : decode b_th_interruptToTake 42 = .ok (.getfield 181, 3) := by decide +kernel
theorem d_th_interruptToTake_45 : decode b_th_interruptToTake 45 = .ok (.iconst (-1), 1) := by decide +kernel
theorem d_th_interruptToTake_46 : decode b_th_interruptToTake 46 = .ok (.ixor, 1) := by decide +kernel
theorem d_th_interruptToTake_47 : decode b_th_interruptToTake 47 = .ok (.iand, 1) := by decide +kernel
theorem d_th_interruptToTake_48 : decode b_th_interruptToTake 48 = .ok (.invokestatic 184, 3) := by decide +kernel
theorem d_th_interruptToTake_51 : decode b_th_interruptToTake 51 = .ok (.istore_n 2, 1) := by decide +kernel
theorem d_th_interruptToTake_52 : decode b_th_interruptToTake 52 = .ok (.iload_n 2, 1) := by decide +kernel
theorem d_th_interruptToTake_53 : decode b_th_interruptToTake 53 = .ok (.iconst (-1), 1) := by decide +kernel
theorem d_th_interruptToTake_54 : decode b_th_interruptToTake 54 = .ok (.if_icmp .eq 5, 3) := by decide +kernel
theorem d_th_interruptToTake_57 : decode b_th_interruptToTake 57 = .ok (.iload_n 2, 1) := by decide +kernel
theorem d_th_interruptToTake_58 : decode b_th_interruptToTake 58 = .ok (.ireturn, 1) := by decide +kernel
theorem d_th_interruptToTake_59 : decode b_th_interruptToTake 59 = .ok (.aload_n 0, 1) := by decide +kernel
theorem d_th_interruptToTake_60 : decode b_th_interruptToTake 60 = .ok (.getfield 27, 3) := by decide +kernel
theorem d_th_interruptToTake_63 : decode b_th_interruptToTake 63 = .ok (.ifCond .eq 24, 3) := by decide +kernel
theorem d_th_interruptToTake_66 : decode b_th_interruptToTake 66 = .ok (.aload_n 0, 1) := by decide +kernel
theorem d_th_interruptToTake_67 : decode b_th_interruptToTake 67 = .ok (.getfield 27, 3) := by decide +kernel
theorem d_th_interruptToTake_70 : decode b_th_interruptToTake 70 = .ok (.iconst 1, 1) := by decide +kernel
theorem d_th_interruptToTake_71 : decode b_th_interruptToTake 71 = .ok (.if_icmp .ne 29, 3) := by decide +kernel
theorem d_th_interruptToTake_74 : decode b_th_interruptToTake 74 = .ok (.aload_n 0, 1) := by decide +kernel
theorem d_th_interruptToTake_75 : decode b_th_interruptToTake 75 = .ok (.getfield 23, 3) := by decide +kernel
theorem d_th_interruptToTake_78 : decode b_th_interruptToTake 78 = .ok (.getfield 119, 3) := by decide +kernel
theorem d_th_interruptToTake_81 : decode b_th_interruptToTake 81 = .ok (.invokevirtual 187, 3) := by decide +kernel
theorem d_th_interruptToTake_84 : decode b_th_interruptToTake 84 = .ok (.ifCond .eq 16, 3) := by decide +kernel
theorem d_th_interruptToTake_87 : decode b_th_interruptToTake 87 = .ok (.iload_n 1, 1) := by decide +kernel
theorem d_th_interruptToTake_88 : decode b_th_interruptToTake 88 = .ok (.aload_n 0, 1) := by decide +kernel
theorem d_th_interruptToTake_89 : decode b_th_interruptToTake 89 = .ok (.getfield 23, 3) := by decide +kernel
theorem d_th_interruptToTake_92 : decode b_th_interruptToTake 92 = .ok (.getfield 181, 3) := by decide +kernel
theorem d_th_interruptToTake_95 : decode b_th_interruptToTake 95 = .ok (.iand, 1) := by decide +kernel
theorem d_th_interruptToTake_96 : decode b_th_interruptToTake 96 = .ok (.invokestatic 184, 3) := by decide +kernel
theorem d_th_interruptToTake_99 : decode b_th_interruptToTake 99 = .ok (.ireturn, 1) := by decide +kernel
theorem d_th_interruptToTake_100 : decode b_th_interruptToTake 100 = .ok (.iconst (-1), 1) := by decide +kernel
theorem d_th_interruptToTake_101 : decode b_th_interruptToTake 101 = .ok (.ireturn, 1) := by decide +kernel
theorem d_th_enterTrap_0 : decode b_th_enterTrap 0 = .ok (.aload_n 0, 1) := by decide +kernel
theorem d_th_enterTrap_1 : decode b_th_enterTrap 1 = .ok (.getfield 27, 3) := by decide +kernel
theorem d_th_enterTrap_4 : decode b_th_enterTrap 4 = .ok (.iconst 3, 1) := by decide +kernel
theorem d_th_enterTrap_5 : decode b_th_enterTrap 5 = .ok (.if_icmp .eq 45, 3) := by decide +kernel
theorem d_th_enterTrap_8 : decode b_th_enterTrap 8 = .ok (.aload_n 0, 1) := by decide +kernel
theorem d_th_enterTrap_9 : decode b_th_enterTrap 9 = .ok (.getfield 23, 3) := by decide +kernel
theorem d_th_enterTrap_12 : decode b_th_enterTrap 12 = .ok (.iload_n 1, 1) := by decide +kernel
theorem d_th_enterTrap_13 : decode b_th_enterTrap 13 = .ok (.iload_n 2, 1) := by decide +kernel
theorem d_th_enterTrap_14 : decode b_th_enterTrap 14 = .ok (.invokevirtual 190, 3) := by decide +kernel
theorem d_th_enterTrap_17 : decode b_th_enterTrap 17 = .ok (.ifCond .eq 33, 3) := by decide +kernel
theorem d_th_enterTrap_20 : decode b_th_enterTrap 20 = .ok (.aload_n 0, 1) := by decide +kernel
theorem d_th_enterTrap_21 : decode b_th_enterTrap 21 = .ok (.getfield 23, 3) := by decide +kernel
theorem d_th_enterTrap_24 : decode b_th_enterTrap 24 = .ok (.getfield 119, 3) := by decide +kernel
theorem d_th_enterTrap_27 : decode b_th_enterTrap 27 = .ok (.aload_n 0, 1) := by decide +kernel
theorem d_th_enterTrap_28 : decode b_th_enterTrap 28 = .ok (.getfield 27, 3) := by decide +kernel
theorem d_th_enterTrap_31 : decode b_th_enterTrap 31 = .ok (.invokevirtual 194, 3) := by decide +kernel
theorem d_th_enterTrap_34 : decode b_th_enterTrap 34 = .ok (.aload_n 0, 1) := by decide +kernel
theorem d_th_enterTrap_35 : decode b_th_enterTrap 35 = .ok (.getfield 23, 3) := by decide +kernel
theorem d_th_enterTrap_38 : decode b_th_enterTrap 38 = .ok (.getfield 140, 3) := by decide +kernel
theorem d_th_enterTrap_41 : decode b_th_enterTrap 41 = .ok (.astore_n 3, 1) := by decide +kernel
theorem d_th_enterTrap_42 : decode b_th_enterTrap 42 = .ok (.aload_n 0, 1) := by decide +kernel
theorem d_th_enterTrap_43 : decode b_th_enterTrap 43 = .ok (.iconst 1, 1) := by decide +kernel
theorem d_th_enterTrap_44 : decode b_th_enterTrap 44 = .ok (.putfield 27, 3) := by decide +kernel
theorem d_th_enterTrap_47 : decode b_th_enterTrap 47 = .ok (.goto 30, 3) := by decide +kernel
theorem d_th_enterTrap_50 : decode b_th_enterTrap 50 = .ok (.aload_n 0, 1) := by decide +kernel
theorem d_th_enterTrap_51 : decode b_th_enterTrap 51 = .ok (.getfield 23, 3) := by decide +kernel
theorem d_th_enterTrap_54 : decode b_th_enterTrap 54 = .ok (.getfield 119, 3) := by decide +kernel
theorem d_th_enterTrap_57 : decode b_th_enterTrap 57 = .ok (.aload_n 0, 1) := by decide +kernel
theorem d_th_enterTrap_58 : decode b_th_enterTrap 58 = .ok (.getfield 27, 3) := by decide +kernel
theorem d_th_enterTrap_61 : decode b_th_enterTrap 61 = .ok (.invokevirtual 197, 3) := by decide +kernel
theorem d_th_enterTrap_64 : decode b_th_enterTrap 64 = .ok (.aload_n 0, 1) := by decide +kernel
theorem d_th_enterTrap_65 : decode b_th_enterTrap 65 = .ok (.getfield 23, 3) := by decide +kernel
theorem d_th_enterTrap_68 : decode b_th_enterTrap 68 = .ok (.getfield 128, 3) := by decide +kernel
theorem d_th_enterTrap_71 : decode b_th_enterTrap 71 = .ok (.astore_n 3, 1) := by decide +kernel
theorem d_th_enterTrap_72 : decode b_th_enterTrap 72 = .ok (.aload_n 0, 1) := by decide +kernel
theorem d_th_enterTrap_73 : decode b_th_enterTrap 73 = .ok (.iconst 3, 1) := by decide +kernel
theorem d_th_enterTrap_74 : decode b_th_enterTrap 74 = .ok (.putfield 27, 3) := by decide +kernel
theorem d_th_enterTrap_77 : decode b_th_enterTrap 77 = .ok (.aload_n 0, 1) := by decide +kernel
theorem d_th_enterTrap_78 : decode b_th_enterTrap 78 = .ok (.aload_n 3, 1) := by decide +kernel
theorem d_th_enterTrap_79 : decode b_th_enterTrap 79 = .ok (.aload_n 0, 1) := by decide +kernel
theorem d_th_enterTrap_80 : decode b_th_enterTrap 80 = .ok (.getfield 31, 3) := by decide +kernel
theorem d_th_enterTrap_83 : decode b_th_enterTrap 83 = .ok (.iload_n 1, 1) := by decide +kernel
theorem d_th_enterTrap_84 : decode b_th_enterTrap 84 = .ok (.iload_n 2, 1) := by decide +kernel
theorem d_th_enterTrap_85 : decode b_th_enterTrap 85 = .ok (.invokevirtual 200, 3) := by decide +kernel
theorem d_th_enterTrap_88 : decode b_th_enterTrap 88 = .ok (.putfield 31, 3) := by decide +kernel
theorem d_th_enterTrap_91 : decode b_th_enterTrap 91 = .ok (.return_, 1) := by decide +kernel
theorem d_th_hasBit_0 : decode b_th_hasBit 0 = .ok (.iload_n 0, 1) := by decide +kernel
theorem d_th_hasBit_1 : decode b_th_hasBit 1 = .ok (.iload_n 1, 1) := by decide +kernel
theorem d_th_hasBit_2 : decode b_th_hasBit 2 = .ok (.iushr, 1) := by decide +kernel
theorem d_th_hasBit_3 : decode b_th_hasBit 3 = .ok (.iconst 1, 1) := by decide +kernel
theorem d_th_hasBit_4 : decode b_th_hasBit 4 = .ok (.iand, 1) := by decide +kernel
theorem d_th_hasBit_5 : decode b_th_hasBit 5 = .ok (.ifCond .eq 7, 3) := by decide +kernel
theorem d_th_hasBit_8 : decode b_th_hasBit 8 = .ok (.iconst 1, 1) := by decide +kernel
theorem d_th_hasBit_9 : decode b_th_hasBit 9 = .ok (.goto 4, 3) := by decide +kernel
theorem d_th_hasBit_12 : decode b_th_hasBit 12 = .ok (.iconst 0, 1) := by decide +kernel
theorem d_th_hasBit_13 : decode b_th_hasBit 13 = .ok (.ireturn, 1) := by decide +kernel
theorem d_th_replaceBits_0 : decode b_th_replaceBits 0 = .ok (.iload_n 0, 1) := by decide +kernel
theorem d_th_replaceBits_1 : decode b_th_replaceBits 1 = .ok (.iload_n 2, 1) := by decide +kernel
theorem d_th_replaceBits_2 : decode b_th_replaceBits 2 = .ok (.iconst (-1), 1) := by decide +kernel
theorem d_th_replaceBits_3 : decode b_th_replaceBits 3 = .ok (.ixor, 1) := by decide +kernel
theorem d_th_replaceBits_4 : decode b_th_replaceBits 4 = .ok (.iand, 1) := by decide +kernel
theorem d_th_replaceBits_5 : decode b_th_replaceBits 5 = .ok (.iload_n 1, 1) := by decide +kernel
theorem d_th_replaceBits_6 : decode b_th_replaceBits 6 = .ok (.iload_n 2, 1) := by decide +kernel
theorem d_th_replaceBits_7 : decode b_th_replaceBits 7 = .ok (.iand, 1) := by decide +kernel
theorem d_th_replaceBits_8 : decode b_th_replaceBits 8 = .ok (.ior, 1) := by decide +kernel
theorem d_th_replaceBits_9 : decode b_th_replaceBits 9 = .ok (.ireturn, 1) := by decide +kernel
theorem d_mo_init_0 : decode b_mo_init 0 = .ok (.aload_n 0, 1) := by decide +kernel
theorem d_mo_init_1 : decode b_mo_init 1 = .ok (.invokespecial 1, 3) := by decide +kernel
theorem d_mo_init_4 : decode b_mo_init 4 = .ok (.aload_n 0, 1) := by decide +kernel
theorem d_mo_init_5 : decode b_mo_init 5 = .ok (.iconst 3, 1) := by decide +kernel
theorem d_mo_init_6 : decode b_mo_init 6 = .ok (.putfield 7, 3) := by decide +kernel
theorem d_mo_init_9 : decode b_mo_init 9 = .ok (.aload_n 0, 1) := by decide +kernel
theorem d_mo_init_10 : decode b_mo_init 10 = .ok (.bipush 16, 2) := by decide +kernel
theorem d_mo_init_12 : decode b_mo_init 12 = .ok (.newarray .boolean, 2) := by decide +kernel
theorem d_mo_init_14 : decode b_mo_init 14 = .ok (.putfield 13, 3) := by decide +kernel
theorem d_mo_init_17 : decode b_mo_init 17 = .ok (.aload_n 0, 1) := by decide +kernel
theorem d_mo_init_18 : decode b_mo_init 18 = .ok (.bipush 16, 2) := by decide +kernel
theorem d_mo_init_20 : decode b_mo_init 20 = .ok (.newarray .boolean, 2) := by decide +kernel
theorem d_mo_init_22 : decode b_mo_init 22 = .ok (.putfield 17, 3) := by decide +kernel
theorem d_mo_init_25 : decode b_mo_init 25 = .ok (.aload_n 0, 1) := by decide +kernel
theorem d_mo_init_26 : decode b_mo_init 26 = .ok (.bipush 16, 2) := by decide +kernel
theorem d_mo_init_28 : decode b_mo_init 28 = .ok (.newarray .int, 2) := by decide +kernel
theorem d_mo_init_30 : decode b_mo_init 30 = .ok (.putfield 20, 3) := by decide +kernel
theorem d_mo_init_33 : decode b_mo_init 33 = .ok (.aload_n 0, 1) := by decide +kernel
theorem d_mo_init_34 : decode b_mo_init 34 = .ok (.bipush 16, 2) := by decide +kernel
theorem d_mo_init_36 : decode b_mo_init 36 = .ok (.newarray .boolean, 2) := by decide +kernel
theorem d_mo_init_38 : decode b_mo_init 38 = .ok (.putfield 24, 3) := by decide +kernel
theorem d_mo_init_41 : decode b_mo_init 41 = .ok (.aload_n 0, 1) := by decide +kernel
theorem d_mo_init_42 : decode b_mo_init 42 = .ok (.bipush 16, 2) := by decide +kernel
theorem d_mo_init_44 : decode b_mo_init 44 = .ok (.newarray .int, 2) := by decide +kernel
theorem d_mo_init_46 : decode b_mo_init 46 = .ok (.putfield 27, 3) := by decide +kernel
theorem d_mo_init_49 : decode b_mo_init 49 = .ok (.aload_n 0, 1) := by decide +kernel
theorem d_mo_init_50 : decode b_mo_init 50 = .ok (.bipush 16, 2) := by decide +kernel
theorem d_mo_init_52 : decode b_mo_init 52 = .ok (.newarray .int, 2) := by decide +kernel
theorem d_mo_init_54 : decode b_mo_init 54 = .ok (.putfield 30, 3) := by decide +kernel
theorem d_mo_init_57 : decode b_mo_init 57 = .ok (.aload_n 0, 1) := by decide +kernel
theorem d_mo_init_58 : decode b_mo_init 58 = .ok (.iconst 2, 1) := by decide +kernel
theorem d_mo_init_59 : decode b_mo_init 59 = .ok (.newarray .int, 2) := by decide +kernel
theorem d_mo_init_61 : decode b_mo_init 61 = .ok (.putfield 33, 3) := by decide +kernel
theorem d_mo_init_64 : decode b_mo_init 64 = .ok (.aload_n 0, 1) := by decide +kernel
theorem d_mo_init_65 : decode b_mo_init 65 = .ok (.iconst 2, 1) := by decide +kernel
theorem d_mo_init_66 : decode b_mo_init 66 = .ok (.newarray .int, 2) := by decide +kernel
theorem d_mo_init_68 : decode b_mo_init 68 = .ok (.putfield 36, 3) := by decide +kernel
theorem d_mo_init_71 : decode b_mo_init 71 = .ok (.aload_n 0, 1) := by decide +kernel
theorem d_mo_init_72 : decode b_mo_init 72 = .ok (.ldc2_w 39, 3) := by decide +kernel
theorem d_mo_init_75 : decode b_mo_init 75 = .ok (.putfield 41, 3) := by decide +kernel
theorem d_mo_init_78 : decode b_mo_init 78 = .ok (.aload_n 0, 1) := by decide +kernel
theorem d_mo_init_79 : decode b_mo_init 79 = .ok (.iconst 2, 1) := by decide +kernel
theorem d_mo_init_80 : decode b_mo_init 80 = .ok (.newarray .int, 2) := by decide +kernel
theorem d_mo_init_82 : decode b_mo_init 82 = .ok (.putfield 45, 3) := by decide +kernel
theorem d_mo_init_85 : decode b_mo_init 85 = .ok (.aload_n 0, 1) := by decide +kernel
theorem d_mo_init_86 : decode b_mo_init 86 = .ok (.iconst 2, 1) := by decide +kernel
theorem d_mo_init_87 : decode b_mo_init 87 = .ok (.newarray .int, 2) := by decide +kernel
theorem d_mo_init_89 : decode b_mo_init 89 = .ok (.putfield 48, 3) := by decide +kernel
theorem d_mo_init_92 : decode b_mo_init 92 = .ok (.aload_n 0, 1) := by decide +kernel
theorem d_mo_init_93 : decode b_mo_init 93 = .ok (.iconst 2, 1) := by decide +kernel
theorem d_mo_init_94 : decode b_mo_init 94 = .ok (.newarray .int, 2) := by decide +kernel
theorem d_mo_init_96 : decode b_mo_init 96 = .ok (.putfield 51, 3) := by decide +kernel
theorem d_mo_init_99 : decode b_mo_init 99 = .ok (.iconst 1, 1) := by decide +kernel
theorem d_mo_init_100 : decode b_mo_init 100 = .ok (.istore_n 2, 1) := by decide +kernel
theorem d_mo_init_101 : decode b_mo_init 101 = .ok (.iload_n 2, 1) := by decide +kernel
theorem d_mo_init_102 : decode b_mo_init 102 = .ok (.bipush 16, 2) := by decide +kernel
theorem d_mo_init_104 : decode b_mo_init 104 = .ok (.if_icmp .ge 29, 3) := by decide +kernel
theorem d_mo_init_107 : decode b_mo_init 107 = .ok (.aload_n 0, 1) := by decide +kernel
theorem d_mo_init_108 : decode b_mo_init 108 = .ok (.getfield 13, 3) := by decide +kernel
theorem d_mo_init_111 : decode b_mo_init 111 = .ok (.iload_n 2, 1) := by decide +kernel
theorem d_mo_init_112 : decode b_mo_init 112 = .ok (.iload_n 1, 1) := by decide +kernel
theorem d_mo_init_113 : decode b_mo_init 113 = .ok (.iload_n 2, 1) := by decide +kernel
theorem d_mo_init_114 : decode b_mo_init 114 = .ok (.ishr, 1) := by decide +kernel
theorem d_mo_init_115 : decode b_mo_init 115 = .ok (.iconst 1, 1) := by decide +kernel
theorem d_mo_init_116 : decode b_mo_init 116 = .ok (.iand, 1) := by decide +kernel
theorem d_mo_init_117 : decode b_mo_init 117 = .ok (.iconst 1, 1) := by decide +kernel
theorem d_mo_init_118 : decode b_mo_init 118 = .ok (.if_icmp .ne 7, 3) := by decide +kernel
theorem d_mo_init_121 : decode b_mo_init 121 = .ok (.iconst 1, 1) := by decide +kernel
theorem d_mo_init_122 : decode b_mo_init 122 = .ok (.goto 4, 3) := by decide +kernel
theorem d_mo_init_125 : decode b_mo_init 125 = .ok (.iconst 0, 1) := by decide +kernel
theorem d_mo_init_126 : decode b_mo_init 126 = .ok (.bastore, 1) := by decide +kernel
theorem d_mo_init_127 : decode b_mo_init 127 = .ok (.iinc 2 1, 3) := by decide +kernel
theorem d_mo_init_130 : decode b_mo_init 130 = .ok (.goto (-29), 3) := by decide +kernel
theorem d_mo_init_133 : decode b_mo_init 133 = .ok (.return_, 1) := by decide +kernel
theorem d_mo_thrown_0 : decode b_mo_thrown 0 = .ok (.aload_n 0, 1) := by decide +kernel
theorem d_mo_thrown_1 : decode b_mo_thrown 1 = .ok (.getfield 54, 3) := by decide +kernel
theorem d_mo_thrown_4 : decode b_mo_thrown 4 = .ok (.ireturn, 1) := by decide +kernel
theorem d_mo_forward_0 : decode b_mo_forward 0 = .ok (.iconst 1, 1) := by decide +kernel
theorem d_mo_forward_1 : decode b_mo_forward 1 = .ok (.istore_n 1, 1) := by decide +kernel
theorem d_mo_forward_2 : decode b_mo_forward 2 = .ok (.iload_n 1, 1) := by decide +kernel
theorem d_mo_forward_3 : decode b_mo_forward 3 = .ok (.bipush 16, 2) := by decide +kernel
theorem d_mo_forward_5 : decode b_mo_forward 5 = .ok (.if_icmp .ge 87, 3) := by decide +kernel
theorem d_mo_forward_8 : decode b_mo_forward 8 = .ok (.aload_n 0, 1) := by decide +kernel
theorem d_mo_forward_9 : decode b_mo_forward 9 = .ok (.getfield 24, 3) := by decide +kernel
theorem d_mo_forward_12 : decode b_mo_forward 12 = .ok (.iload_n 1, 1) := by decide +kernel
theorem d_mo_forward_13 : decode b_mo_forward 13 = .ok (.baload, 1) := by decide +kernel
theorem d_mo_forward_14 : decode b_mo_forward 14 = .ok (.ifCond .ne 72, 3) := by decide +kernel
theorem d_mo_forward_17 : decode b_mo_forward 17 = .ok (.aload_n 0, 1) := by decide +kernel
theorem d_mo_forward_18 : decode b_mo_forward 18 = .ok (.getfield 27, 3) := by decide +kernel
theorem d_mo_forward_21 : decode b_mo_forward 21 = .ok (.iload_n 1, 1) := by decide +kernel
theorem d_mo_forward_22 : decode b_mo_forward 22 = .ok (.iaload, 1) := by decide +kernel
theorem d_mo_forward_23 : decode b_mo_forward 23 = .ok (.ifCond .ne 63, 3) := by decide +kernel
theorem d_mo_forward_26 : decode b_mo_forward 26 = .ok (.aload_n 0, 1) := by decide +kernel
theorem d_mo_forward_27 : decode b_mo_forward 27 = .ok (.getfield 13, 3) := by decide +kernel
theorem d_mo_forward_30 : decode b_mo_forward 30 = .ok (.iload_n 1, 1) := by decide +kernel
theorem d_mo_forward_31 : decode b_mo_forward 31 = .ok (.baload, 1) := by decide +kernel
theorem d_mo_forward_32 : decode b_mo_forward 32 = .ok (.ifCond .eq 29, 3) := by decide +kernel
theorem d_mo_forward_35 : decode b_mo_forward 35 = .ok (.aload_n 0, 1) := by decide +kernel
theorem d_mo_forward_36 : decode b_mo_forward 36 = .ok (.getfield 30, 3) := by decide +kernel
theorem d_mo_forward_39 : decode b_mo_forward 39 = .ok (.iload_n 1, 1) := by decide +kernel
theorem d_mo_forward_40 : decode b_mo_forward 40 = .ok (.iaload, 1) := by decide +kernel
theorem d_mo_forward_41 : decode b_mo_forward 41 = .ok (.ifCond .le 20, 3) := by decide +kernel
theorem d_mo_forward_44 : decode b_mo_forward 44 = .ok (.aload_n 0, 1) := by decide +kernel
theorem d_mo_forward_45 : decode b_mo_forward 45 = .ok (.getfield 30, 3) := by decide +kernel
theorem d_mo_forward_48 : decode b_mo_forward 48 = .ok (.iload_n 1, 1) := by decide +kernel
theorem d_mo_forward_49 : decode b_mo_forward 49 = .ok (.dup2, 1) := by decide +kernel
theorem d_mo_forward_50 : decode b_mo_forward 50 = .ok (.iaload, 1) := by decide +kernel
theorem d_mo_forward_51 : decode b_mo_forward 51 = .ok (.iconst 1, 1) := by decide +kernel
theorem d_mo_forward_52 : decode b_mo_forward 52 = .ok (.isub, 1) := by decide +kernel
theorem d_mo_forward_53 : decode b_mo_forward 53 = .ok (.iastore, 1) := by decide +kernel
theorem d_mo_forward_54 : decode b_mo_forward 54 = .ok (.aload_n 0, 1) := by decide +kernel
theorem d_mo_forward_55 : decode b_mo_forward 55 = .ok (.getfield 24, 3) := by decide +kernel
theorem d_mo_forward_58 : decode b_mo_forward 58 = .ok (.iload_n 1, 1) := by decide +kernel
theorem d_mo_forward_59 : decode b_mo_forward 59 = .ok (.iconst 1, 1) := by decide +kernel
theorem d_mo_forward_60 : decode b_mo_forward 60 = .ok (.bastore, 1) := by decide +kernel
theorem d_mo_forward_61 : decode b_mo_forward 61 = .ok (.aload_n 0, 1) := by decide +kernel
theorem d_mo_forward_62 : decode b_mo_forward 62 = .ok (.getfield 13, 3) := by decide +kernel
theorem d_mo_forward_65 : decode b_mo_forward 65 = .ok (.iload_n 1, 1) := by decide +kernel
theorem d_mo_forward_66 : decode b_mo_forward 66 = .ok (.baload, 1) := by decide +kernel
theorem d_mo_forward_67 : decode b_mo_forward 67 = .ok (.ifCond .ne 19, 3) := by decide +kernel
theorem d_mo_forward_70 : decode b_mo_forward 70 = .ok (.aload_n 0, 1) := by decide +kernel
theorem d_mo_forward_71 : decode b_mo_forward 71 = .ok (.getfield 17, 3) := by decide +kernel
theorem d_mo_forward_74 : decode b_mo_forward 74 = .ok (.iload_n 1, 1) := by decide +kernel
theorem d_mo_forward_75 : decode b_mo_forward 75 = .ok (.baload, 1) := by decide +kernel
theorem d_mo_forward_76 : decode b_mo_forward 76 = .ok (.ifCond .eq 10, 3) := by decide +kernel
theorem d_mo_forward_79 : decode b_mo_forward 79 = .ok (.aload_n 0, 1) := by decide +kernel
theorem d_mo_forward_80 : decode b_mo_forward 80 = .ok (.getfield 24, 3) := by decide +kernel
theorem d_mo_forward_83 : decode b_mo_forward 83 = .ok (.iload_n 1, 1) := by decide +kernel
theorem d_mo_forward_84 : decode b_mo_forward 84 = .ok (.iconst 1, 1) := by decide +kernel
theorem d_mo_forward_85 : decode b_mo_forward 85 = .ok (.bastore, 1) := by decide +kernel
theorem d_mo_forward_86 : decode b_mo_forward 86 = .ok (.iinc 1 1, 3) := by decide +kernel
theorem d_mo_forward_89 : decode b_mo_forward 89 = .ok (.goto (-87), 3) := by decide +kernel
theorem d_mo_forward_92 : decode b_mo_forward 92 = .ok (.return_, 1) := by decide +kernel
theorem d_mo_pendingSet_0 : decode b_mo_pendingSet 0 = .ok (.iconst 0, 1) := by decide +kernel
theorem d_mo_pendingSet_1 : decode b_mo_pendingSet 1 = .ok (.istore_n 1, 1) := by decide +kernel
theorem d_mo_pendingSet_2 : decode b_mo_pendingSet 2 = .ok (.iconst 1, 1) := by decide +kernel
theorem d_mo_pendingSet_3 : decode b_mo_pendingSet 3 = .ok (.istore_n 2, 1) := by decide +kernel
theorem d_mo_pendingSet_4 : decode b_mo_pendingSet 4 = .ok (.iload_n 2, 1) := by decide +kernel
theorem d_mo_pendingSet_5 : decode b_mo_pendingSet 5 = .ok (.bipush 16, 2) := by decide +kernel
theorem d_mo_pendingSet_7 : decode b_mo_pendingSet 7 = .ok (.if_icmp .ge 28, 3) := by decide +kernel
theorem d_mo_pendingSet_10 : decode b_mo_pendingSet 10 = .ok (.aload_n 0, 1) := by decide +kernel
theorem d_mo_pendingSet_11 : decode b_mo_pendingSet 11 = .ok (.getfield 24, 3) := by decide +kernel
theorem d_mo_pendingSet_14 : decode b_mo_pendingSet 14 = .ok (.iload_n 2, 1) := by decide +kernel
theorem d_mo_pendingSet_15 : decode b_mo_pendingSet 15 = .ok (.baload, 1) := by decide +kernel
theorem d_mo_pendingSet_16 : decode b_mo_pendingSet 16 = .ok (.ifCond .eq 11, 3) := by decide +kernel
theorem d_mo_pendingSet_19 : decode b_mo_pendingSet 19 = .ok (.iload_n 1, 1) := by decide +kernel
theorem d_mo_pendingSet_20 : decode b_mo_pendingSet 20 = .ok (.iconst 1, 1) := by decide +kernel
theorem d_mo_pendingSet_21 : decode b_mo_pendingSet 21 = .ok (.iload_n 2, 1) := by decide +kernel
theorem d_mo_pendingSet_22 : decode b_mo_pendingSet 22 = .ok (.ishl, 1) := by decide +kernel
theorem d_mo_pendingSet_23 : decode b_mo_pendingSet 23 = .ok (.iadd, 1) := by decide +kernel
theorem d_mo_pendingSet_24 : decode b_mo_pendingSet 24 = .ok (.goto 4, 3) := by decide +kernel
theorem d_mo_pendingSet_27 : decode b_mo_pendingSet 27 = .ok (.iload_n 1, 1) := by decide +kernel
theorem d_mo_pendingSet_28 : decode b_mo_pendingSet 28 = .ok (.istore_n 1, 1) := by decide +kernel
theorem d_mo_pendingSet_29 : decode b_mo_pendingSet 29 = .ok (.iinc 2 1, 3) := by decide +kernel
theorem d_mo_pendingSet_32 : decode b_mo_pendingSet 32 = .ok (.goto (-28), 3) := by decide +kernel
theorem d_mo_pendingSet_35 : decode b_mo_pendingSet 35 = .ok (.iload_n 1, 1) := by decide +kernel
theorem d_mo_pendingSet_36 : decode b_mo_pendingSet 36 = .ok (.ireturn, 1) := by decide +kernel
theorem d_mo_lines_0 : decode b_mo_lines 0 = .ok (.aload_n 0, 1) := by decide +kernel
theorem d_mo_lines_1 : decode b_mo_lines 1 = .ok (.iconst 0, 1) := by decide +kernel
theorem d_mo_lines_2 : decode b_mo_lines 2 = .ok (.putfield 54, 3) := by decide +kernel
theorem d_mo_lines_5 : decode b_mo_lines 5 = .ok (.iconst 1, 1) := by decide +kernel
theorem d_mo_lines_6 : decode b_mo_lines 6 = .ok (.istore_n 2, 1) := by decide +kernel
theorem d_mo_lines_7 : decode b_mo_lines 7 = .ok (.iload_n 2, 1) := by decide +kernel
theorem d_mo_lines_8 : decode b_mo_lines 8 = .ok (.bipush 16, 2) := by decide +kernel
theorem d_mo_lines_10 : decode b_mo_lines 10 = .ok (.if_icmp .ge 74, 3) := by decide +kernel
theorem d_mo_lines_13 : decode b_mo_lines 13 = .ok (.iload_n 1, 1) := by decide +kernel
theorem d_mo_lines_14 : decode b_mo_lines 14 = .ok (.iload_n 2, 1) := by decide +kernel
theorem d_mo_lines_15 : decode b_mo_lines 15 = .ok (.ishr, 1) := by decide +kernel
theorem d_mo_lines_16 : decode b_mo_lines 16 = .ok (.iconst 1, 1) := by decide +kernel
theorem d_mo_lines_17 : decode b_mo_lines 17 = .ok (.iand, 1) := by decide +kernel
theorem d_mo_lines_18 : decode b_mo_lines 18 = .ok (.iconst 1, 1) := by decide +kernel
theorem d_mo_lines_19 : decode b_mo_lines 19 = .ok (.if_icmp .ne 7, 3) := by decide +kernel
theorem d_mo_lines_22 : decode b_mo_lines 22 = .ok (.iconst 1, 1) := by decide +kernel
theorem d_mo_lines_23 : decode b_mo_lines 23 = .ok (.goto 4, 3) := by decide +kernel
theorem d_mo_lines_26 : decode b_mo_lines 26 = .ok (.iconst 0, 1) := by decide +kernel
theorem d_mo_lines_27 : decode b_mo_lines 27 = .ok (.istore_n 3, 1) := by decide +kernel
theorem d_mo_lines_28 : decode b_mo_lines 28 = .ok (.aload_n 0, 1) := by decide +kernel
theorem d_mo_lines_29 : decode b_mo_lines 29 = .ok (.getfield 13, 3) := by decide +kernel
theorem d_mo_lines_32 : decode b_mo_lines 32 = .ok (.iload_n 2, 1) := by decide +kernel
theorem d_mo_lines_33 : decode b_mo_lines 33 = .ok (.baload, 1) := by decide +kernel
theorem d_mo_lines_34 : decode b_mo_lines 34 = .ok (.ifCond .eq 37, 3) := by decide +kernel
theorem d_mo_lines_37 : decode b_mo_lines 37 = .ok (.iload_n 3, 1) := by decide +kernel
theorem d_mo_lines_38 : decode b_mo_lines 38 = .ok (.ifCond .eq 33, 3) := by decide +kernel
theorem d_mo_lines_41 : decode b_mo_lines 41 = .ok (.aload_n 0, 1) := by decide +kernel
theorem d_mo_lines_42 : decode b_mo_lines 42 = .ok (.getfield 17, 3) := by decide +kernel
theorem d_mo_lines_45 : decode b_mo_lines 45 = .ok (.iload_n 2, 1) := by decide +kernel
theorem d_mo_lines_46 : decode b_mo_lines 46 = .ok (.baload, 1) := by decide +kernel
theorem d_mo_lines_47 : decode b_mo_lines 47 = .ok (.ifCond .ne 24, 3) := by decide +kernel
theorem d_mo_lines_50 : decode b_mo_lines 50 = .ok (.aload_n 0, 1) := by decide +kernel
theorem d_mo_lines_51 : decode b_mo_lines 51 = .ok (.getfield 30, 3) := by decide +kernel
theorem d_mo_lines_54 : decode b_mo_lines 54 = .ok (.iload_n 2, 1) := by decide +kernel
theorem d_mo_lines_55 : decode b_mo_lines 55 = .ok (.iaload, 1) := by decide +kernel
theorem d_mo_lines_56 : decode b_mo_lines 56 = .ok (.bipush 15, 2) := by decide +kernel
theorem d_mo_lines_58 : decode b_mo_lines 58 = .ok (.if_icmp .ge 13, 3) := by decide +kernel
theorem d_mo_lines_61 : decode b_mo_lines 61 = .ok (.aload_n 0, 1) := by decide +kernel
theorem d_mo_lines_62 : decode b_mo_lines 62 = .ok (.getfield 30, 3) := by decide +kernel
theorem d_mo_lines_65 : decode b_mo_lines 65 = .ok (.iload_n 2, 1) := by decide +kernel
theorem d_mo_lines_66 : decode b_mo_lines 66 = .ok (.dup2, 1) := by decide +kernel
theorem d_mo_lines_67 : decode b_mo_lines 67 = .ok (.iaload, 1) := by decide +kernel
theorem d_mo_lines_68 : decode b_mo_lines 68 = .ok (.iconst 1, 1) := by decide +kernel
theorem d_mo_lines_69 : decode b_mo_lines 69 = .ok (.iadd, 1) := by decide +kernel
theorem d_mo_lines_70 : decode b_mo_lines 70 = .ok (.iastore, 1) := by decide +kernel
theorem d_mo_lines_71 : decode b_mo_lines 71 = .ok (.aload_n 0, 1) := by decide +kernel
theorem d_mo_lines_72 : decode b_mo_lines 72 = .ok (.getfield 17, 3) := by decide +kernel
theorem d_mo_lines_75 : decode b_mo_lines 75 = .ok (.iload_n 2, 1) := by decide +kernel
theorem d_mo_lines_76 : decode b_mo_lines 76 = .ok (.iload_n 3, 1) := by decide +kernel
theorem d_mo_lines_77 : decode b_mo_lines 77 = .ok (.bastore, 1) := by decide +kernel
theorem d_mo_lines_78 : decode b_mo_lines 78 = .ok (.iinc 2 1, 3) := by decide +kernel
theorem d_mo_lines_81 : decode b_mo_lines 81 = .ok (.goto (-74), 3) := by decide +kernel
theorem d_mo_lines_84 : decode b_mo_lines 84 = .ok (.aload_n 0, 1) := by decide +kernel
theorem d_mo_lines_85 : decode b_mo_lines 85 = .ok (.invokevirtual 57, 3) := by decide +kernel
theorem d_mo_lines_88 : decode b_mo_lines 88 = .ok (.aload_n 0, 1) := by decide +kernel
theorem d_mo_lines_89 : decode b_mo_lines 89 = .ok (.invokevirtual 60, 3) := by decide +kernel
theorem d_mo_lines_92 : decode b_mo_lines 92 = .ok (.ireturn, 1) := by decide +kernel
theorem d_mo_isEnabled_0 : decode b_mo_isEnabled 0 = .ok (.aload_n 0, 1) := by decide +kernel
theorem d_mo_isEnabled_1 : decode b_mo_isEnabled 1 = .ok (.getfield 33, 3) := by decide +kernel
theorem d_mo_isEnabled_4 : decode b_mo_isEnabled 4 = .ok (.iload_n 1, 1) := by decide +kernel
theorem d_mo_isEnabled_5 : decode b_mo_isEnabled 5 = .ok (.iaload, 1) := by decide +kernel
theorem d_mo_isEnabled_6 : decode b_mo_isEnabled 6 = .ok (.iload_n 2, 1) := by decide +kernel
theorem d_mo_isEnabled_7 : decode b_mo_isEnabled 7 = .ok (.ishr, 1) := by decide +kernel
theorem d_mo_isEnabled_8 : decode b_mo_isEnabled 8 = .ok (.iconst 1, 1) := by decide +kernel
theorem d_mo_isEnabled_9 : decode b_mo_isEnabled 9 = .ok (.iand, 1) := by decide +kernel
theorem d_mo_isEnabled_10 : decode b_mo_isEnabled 10 = .ok (.iconst 1, 1) := by decide +kernel
theorem d_mo_isEnabled_11 : decode b_mo_isEnabled 11 = .ok (.if_icmp .ne 7, 3) := by decide +kernel
theorem d_mo_isEnabled_14 : decode b_mo_isEnabled 14 = .ok (.iconst 1, 1) := by decide +kernel
theorem d_mo_isEnabled_15 : decode b_mo_isEnabled 15 = .ok (.goto 4, 3) := by decide +kernel
theorem d_mo_isEnabled_18 : decode b_mo_isEnabled 18 = .ok (.iconst 0, 1) := by decide +kernel
theorem d_mo_isEnabled_19 : decode b_mo_isEnabled 19 = .ok (.ireturn, 1) := by decide +kernel
theorem d_mo_claim_0 : decode b_mo_claim 0 = .ok (.iconst 0, 1) := by decide +kernel
theorem d_mo_claim_1 : decode b_mo_claim 1 = .ok (.istore_n 2, 1) := by decide +kernel
theorem d_mo_claim_2 : decode b_mo_claim 2 = .ok (.bipush 15, 2) := by decide +kernel
theorem d_mo_claim_4 : decode b_mo_claim 4 = .ok (.istore_n 3, 1) := by decide +kernel
theorem d_mo_claim_5 : decode b_mo_claim 5 = .ok (.iload_n 3, 1) := by decide +kernel
theorem d_mo_claim_6 : decode b_mo_claim 6 = .ok (.ifCond .le 57, 3) := by decide +kernel
theorem d_mo_claim_9 : decode b_mo_claim 9 = .ok (.aload_n 0, 1) := by decide +kernel
theorem d_mo_claim_10 : decode b_mo_claim 10 = .ok (.getfield 24, 3) := by decide +kernel
theorem d_mo_claim_13 : decode b_mo_claim 13 = .ok (.iload_n 3, 1) := by decide +kernel
theorem d_mo_claim_14 : decode b_mo_claim 14 = .ok (.baload, 1) := by decide +kernel
theorem d_mo_claim_15 : decode b_mo_claim 15 = .ok (.ifCond .eq 42, 3) := by decide +kernel
theorem d_mo_claim_18 : decode b_mo_claim 18 = .ok (.aload_n 0, 1) := by decide +kernel
theorem d_mo_claim_19 : decode b_mo_claim 19 = .ok (.iload_n 1, 1) := by decide +kernel
theorem d_mo_claim_20 : decode b_mo_claim 20 = .ok (.iload_n 3, 1) := by decide +kernel
theorem d_mo_claim_21 : decode b_mo_claim 21 = .ok (.invokevirtual 64, 3) := by decide +kernel
theorem d_mo_claim_24 : decode b_mo_claim 24 = .ok (.ifCond .eq 33, 3) := by decide +kernel
theorem d_mo_claim_27 : decode b_mo_claim 27 = .ok (.aload_n 0, 1) := by decide +kernel
theorem d_mo_claim_28 : decode b_mo_claim 28 = .ok (.getfield 20, 3) := by decide +kernel
theorem d_mo_claim_31 : decode b_mo_claim 31 = .ok (.iload_n 3, 1) := by decide +kernel
theorem d_mo_claim_32 : decode b_mo_claim 32 = .ok (.iaload, 1) := by decide +kernel
theorem d_mo_claim_33 : decode b_mo_claim 33 = .ok (.ifCond .le 24, 3) := by decide +kernel
theorem d_mo_claim_36 : decode b_mo_claim 36 = .ok (.iload_n 2, 1) := by decide +kernel
theorem d_mo_claim_37 : decode b_mo_claim 37 = .ok (.ifCond .eq 18, 3) := by decide +kernel
theorem d_mo_claim_40 : decode b_mo_claim 40 = .ok (.aload_n 0, 1) := by decide +kernel
theorem d_mo_claim_41 : decode b_mo_claim 41 = .ok (.getfield 20, 3) := by decide +kernel
theorem d_mo_claim_44 : decode b_mo_claim 44 = .ok (.iload_n 3, 1) := by decide +kernel
theorem d_mo_claim_45 : decode b_mo_claim 45 = .ok (.iaload, 1) := by decide +kernel
theorem d_mo_claim_46 : decode b_mo_claim 46 = .ok (.aload_n 0, 1) := by decide +kernel
theorem d_mo_claim_47 : decode b_mo_claim 47 = .ok (.getfield 20, 3) := by decide +kernel
theorem d_mo_claim_50 : decode b_mo_claim 50 = .ok (.iload_n 2, 1) := by decide +kernel
theorem d_mo_claim_51 : decode b_mo_claim 51 = .ok (.iaload, 1) := by decide +kernel
theorem d_mo_claim_52 : decode b_mo_claim 52 = .ok (.if_icmp .lt 5, 3) := by decide +kernel
theorem d_mo_claim_55 : decode b_mo_claim 55 = .ok (.iload_n 3, 1) := by decide +kernel
theorem d_mo_claim_56 : decode b_mo_claim 56 = .ok (.istore_n 2, 1) := by decide +kernel
theorem d_mo_claim_57 : decode b_mo_claim 57 = .ok (.iinc 3 (-1), 3) := by decide +kernel
theorem d_mo_claim_60 : decode b_mo_claim 60 = .ok (.goto (-55), 3) := by decide +kernel
theorem d_mo_claim_63 : decode b_mo_claim 63 = .ok (.iload_n 2, 1) := by decide +kernel
