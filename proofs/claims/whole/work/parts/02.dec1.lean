theorem d_mo_claim_64 : decode b_mo_claim 64 = .ok (.ifCond .le 19, 3) := by decide +kernel
theorem d_mo_claim_67 : decode b_mo_claim 67 = .ok (.aload_n 0, 1) := by decide +kernel
theorem d_mo_claim_68 : decode b_mo_claim 68 = .ok (.getfield 24, 3) := by decide +kernel
theorem d_mo_claim_71 : decode b_mo_claim 71 = .ok (.iload_n 2, 1) := by decide +kernel
theorem d_mo_claim_72 : decode b_mo_claim 72 = .ok (.iconst 0, 1) := by decide +kernel
theorem d_mo_claim_73 : decode b_mo_claim 73 = .ok (.bastore, 1) := by decide +kernel
theorem d_mo_claim_74 : decode b_mo_claim 74 = .ok (.aload_n 0, 1) := by decide +kernel
theorem d_mo_claim_75 : decode b_mo_claim 75 = .ok (.getfield 27, 3) := by decide +kernel
theorem d_mo_claim_78 : decode b_mo_claim 78 = .ok (.iload_n 2, 1) := by decide +kernel
theorem d_mo_claim_79 : decode b_mo_claim 79 = .ok (.iload_n 1, 1) := by decide +kernel
theorem d_mo_claim_80 : decode b_mo_claim 80 = .ok (.iconst 1, 1) := by decide +kernel
theorem d_mo_claim_81 : decode b_mo_claim 81 = .ok (.iadd, 1) := by decide +kernel
theorem d_mo_claim_82 : decode b_mo_claim 82 = .ok (.iastore, 1) := by decide +kernel
theorem d_mo_claim_83 : decode b_mo_claim 83 = .ok (.iload_n 2, 1) := by decide +kernel
theorem d_mo_claim_84 : decode b_mo_claim 84 = .ok (.ireturn, 1) := by decide +kernel
theorem d_mo_complete_0 : decode b_mo_complete 0 = .ok (.iload_n 2, 1) := by decide +kernel
theorem d_mo_complete_1 : decode b_mo_complete 1 = .ok (.iconst 1, 1) := by decide +kernel
theorem d_mo_complete_2 : decode b_mo_complete 2 = .ok (.if_icmp .lt 29, 3) := by decide +kernel
theorem d_mo_complete_5 : decode b_mo_complete 5 = .ok (.iload_n 2, 1) := by decide +kernel
theorem d_mo_complete_6 : decode b_mo_complete 6 = .ok (.bipush 15, 2) := by decide +kernel
theorem d_mo_complete_8 : decode b_mo_complete 8 = .ok (.if_icmp .gt 23, 3) := by decide +kernel
theorem d_mo_complete_11 : decode b_mo_complete 11 = .ok (.aload_n 0, 1) := by decide +kernel
theorem d_mo_complete_12 : decode b_mo_complete 12 = .ok (.iload_n 1, 1) := by decide +kernel
theorem d_mo_complete_13 : decode b_mo_complete 13 = .ok (.iload_n 2, 1) := by decide +kernel
theorem d_mo_complete_14 : decode b_mo_complete 14 = .ok (.invokevirtual 64, 3) := by decide +kernel
theorem d_mo_complete_17 : decode b_mo_complete 17 = .ok (.ifCond .eq 14, 3) := by decide +kernel
theorem d_mo_complete_20 : decode b_mo_complete 20 = .ok (.aload_n 0, 1) := by decide +kernel
theorem d_mo_complete_21 : decode b_mo_complete 21 = .ok (.getfield 27, 3) := by decide +kernel
theorem d_mo_complete_24 : decode b_mo_complete 24 = .ok (.iload_n 2, 1) := by decide +kernel
theorem d_mo_complete_25 : decode b_mo_complete 25 = .ok (.iconst 0, 1) := by decide +kernel
theorem d_mo_complete_26 : decode b_mo_complete 26 = .ok (.iastore, 1) := by decide +kernel
theorem d_mo_complete_27 : decode b_mo_complete 27 = .ok (.aload_n 0, 1) := by decide +kernel
theorem d_mo_complete_28 : decode b_mo_complete 28 = .ok (.invokevirtual 57, 3) := by decide +kernel
theorem d_mo_complete_31 : decode b_mo_complete 31 = .ok (.return_, 1) := by decide +kernel
theorem d_mo_calls_0 : decode b_mo_calls 0 = .ok (.iconst 0, 1) := by decide +kernel
theorem d_mo_calls_1 : decode b_mo_calls 1 = .ok (.istore_n 2, 1) := by decide +kernel
theorem d_mo_calls_2 : decode b_mo_calls 2 = .ok (.iconst 1, 1) := by decide +kernel
theorem d_mo_calls_3 : decode b_mo_calls 3 = .ok (.istore_n 3, 1) := by decide +kernel
theorem d_mo_calls_4 : decode b_mo_calls 4 = .ok (.iload_n 3, 1) := by decide +kernel
theorem d_mo_calls_5 : decode b_mo_calls 5 = .ok (.bipush 16, 2) := by decide +kernel
theorem d_mo_calls_7 : decode b_mo_calls 7 = .ok (.if_icmp .ge 52, 3) := by decide +kernel
theorem d_mo_calls_10 : decode b_mo_calls 10 = .ok (.iload_n 2, 1) := by decide +kernel
theorem d_mo_calls_11 : decode b_mo_calls 11 = .ok (.ifCond .ne 36, 3) := by decide +kernel
theorem d_mo_calls_14 : decode b_mo_calls 14 = .ok (.aload_n 0, 1) := by decide +kernel
theorem d_mo_calls_15 : decode b_mo_calls 15 = .ok (.getfield 24, 3) := by decide +kernel
theorem d_mo_calls_18 : decode b_mo_calls 18 = .ok (.iload_n 3, 1) := by decide +kernel
theorem d_mo_calls_19 : decode b_mo_calls 19 = .ok (.baload, 1) := by decide +kernel
theorem d_mo_calls_20 : decode b_mo_calls 20 = .ok (.ifCond .eq 31, 3) := by decide +kernel
theorem d_mo_calls_23 : decode b_mo_calls 23 = .ok (.aload_n 0, 1) := by decide +kernel
theorem d_mo_calls_24 : decode b_mo_calls 24 = .ok (.iload_n 1, 1) := by decide +kernel
theorem d_mo_calls_25 : decode b_mo_calls 25 = .ok (.iload_n 3, 1) := by decide +kernel
theorem d_mo_calls_26 : decode b_mo_calls 26 = .ok (.invokevirtual 64, 3) := by decide +kernel
theorem d_mo_calls_29 : decode b_mo_calls 29 = .ok (.ifCond .eq 22, 3) := by decide +kernel
theorem d_mo_calls_32 : decode b_mo_calls 32 = .ok (.aload_n 0, 1) := by decide +kernel
theorem d_mo_calls_33 : decode b_mo_calls 33 = .ok (.getfield 20, 3) := by decide +kernel
theorem d_mo_calls_36 : decode b_mo_calls 36 = .ok (.iload_n 3, 1) := by decide +kernel
theorem d_mo_calls_37 : decode b_mo_calls 37 = .ok (.iaload, 1) := by decide +kernel
theorem d_mo_calls_38 : decode b_mo_calls 38 = .ok (.aload_n 0, 1) := by decide +kernel
theorem d_mo_calls_39 : decode b_mo_calls 39 = .ok (.getfield 36, 3) := by decide +kernel
theorem d_mo_calls_42 : decode b_mo_calls 42 = .ok (.iload_n 1, 1) := by decide +kernel
theorem d_mo_calls_43 : decode b_mo_calls 43 = .ok (.iaload, 1) := by decide +kernel
theorem d_mo_calls_44 : decode b_mo_calls 44 = .ok (.if_icmp .le 7, 3) := by decide +kernel
theorem d_mo_calls_47 : decode b_mo_calls 47 = .ok (.iconst 1, 1) := by decide +kernel
theorem d_mo_calls_48 : decode b_mo_calls 48 = .ok (.goto 4, 3) := by decide +kernel
theorem d_mo_calls_51 : decode b_mo_calls 51 = .ok (.iconst 0, 1) := by decide +kernel
theorem d_mo_calls_52 : decode b_mo_calls 52 = .ok (.istore_n 2, 1) := by decide +kernel
theorem d_mo_calls_53 : decode b_mo_calls 53 = .ok (.iinc 3 1, 3) := by decide +kernel
theorem d_mo_calls_56 : decode b_mo_calls 56 = .ok (.goto (-52), 3) := by decide +kernel
theorem d_mo_calls_59 : decode b_mo_calls 59 = .ok (.iload_n 2, 1) := by decide +kernel
theorem d_mo_calls_60 : decode b_mo_calls 60 = .ok (.ireturn, 1) := by decide +kernel
theorem d_mo_ticks_0 : decode b_mo_ticks 0 = .ok (.aload_n 0, 1) := by decide +kernel
theorem d_mo_ticks_1 : decode b_mo_ticks 1 = .ok (.iload_n 1, 1) := by decide +kernel
theorem d_mo_ticks_2 : decode b_mo_ticks 2 = .ok (.ifCond .ge 7, 3) := by decide +kernel
theorem d_mo_ticks_5 : decode b_mo_ticks 5 = .ok (.iconst 1, 1) := by decide +kernel
theorem d_mo_ticks_6 : decode b_mo_ticks 6 = .ok (.goto 4, 3) := by decide +kernel
theorem d_mo_ticks_9 : decode b_mo_ticks 9 = .ok (.iconst 0, 1) := by decide +kernel
theorem d_mo_ticks_10 : decode b_mo_ticks 10 = .ok (.putfield 54, 3) := by decide +kernel
theorem d_mo_ticks_13 : decode b_mo_ticks 13 = .ok (.iload_n 1, 1) := by decide +kernel
theorem d_mo_ticks_14 : decode b_mo_ticks 14 = .ok (.ifCond .lt 14, 3) := by decide +kernel
theorem d_mo_ticks_17 : decode b_mo_ticks 17 = .ok (.aload_n 0, 1) := by decide +kernel
theorem d_mo_ticks_18 : decode b_mo_ticks 18 = .ok (.aload_n 0, 1) := by decide +kernel
theorem d_mo_ticks_19 : decode b_mo_ticks 19 = .ok (.getfield 68, 3) := by decide +kernel
theorem d_mo_ticks_22 : decode b_mo_ticks 22 = .ok (.iload_n 1, 1) := by decide +kernel
theorem d_mo_ticks_23 : decode b_mo_ticks 23 = .ok (.i2l, 1) := by decide +kernel
theorem d_mo_ticks_24 : decode b_mo_ticks 24 = .ok (.ladd, 1) := by decide +kernel
theorem d_mo_ticks_25 : decode b_mo_ticks 25 = .ok (.putfield 68, 3) := by decide +kernel
theorem d_mo_ticks_28 : decode b_mo_ticks 28 = .ok (.return_, 1) := by decide +kernel
theorem d_mo_wordAt_0 : decode b_mo_wordAt 0 = .ok (.iload_n 0, 1) := by decide +kernel
theorem d_mo_wordAt_1 : decode b_mo_wordAt 1 = .ok (.iconst 4, 1) := by decide +kernel
theorem d_mo_wordAt_2 : decode b_mo_wordAt 2 = .ok (.if_icmp .lt 11, 3) := by decide +kernel
theorem d_mo_wordAt_5 : decode b_mo_wordAt 5 = .ok (.iload_n 0, 1) := by decide +kernel
theorem d_mo_wordAt_6 : decode b_mo_wordAt 6 = .ok (.bipush 60, 2) := by decide +kernel
theorem d_mo_wordAt_8 : decode b_mo_wordAt 8 = .ok (.if_icmp .gt 5, 3) := by decide +kernel
theorem d_mo_wordAt_11 : decode b_mo_wordAt 11 = .ok (.iconst 1, 1) := by decide +kernel
theorem d_mo_wordAt_12 : decode b_mo_wordAt 12 = .ok (.ireturn, 1) := by decide +kernel
theorem d_mo_wordAt_13 : decode b_mo_wordAt 13 = .ok (.iload_n 0, 1) := by decide +kernel
theorem d_mo_wordAt_14 : decode b_mo_wordAt 14 = .ok (.bipush 64, 2) := by decide +kernel
theorem d_mo_wordAt_16 : decode b_mo_wordAt 16 = .ok (.if_icmp .ne 5, 3) := by decide +kernel
theorem d_mo_wordAt_19 : decode b_mo_wordAt 19 = .ok (.iconst 2, 1) := by decide +kernel
theorem d_mo_wordAt_20 : decode b_mo_wordAt 20 = .ok (.ireturn, 1) := by decide +kernel
theorem d_mo_wordAt_21 : decode b_mo_wordAt 21 = .ok (.iload_n 0, 1) := by decide +kernel
theorem d_mo_wordAt_22 : decode b_mo_wordAt 22 = .ok (.sipush 192, 3) := by decide +kernel
theorem d_mo_wordAt_25 : decode b_mo_wordAt 25 = .ok (.if_icmp .lt 21, 3) := by decide +kernel
theorem d_mo_wordAt_28 : decode b_mo_wordAt 28 = .ok (.iload_n 0, 1) := by decide +kernel
theorem d_mo_wordAt_29 : decode b_mo_wordAt 29 = .ok (.sipush 208, 3) := by decide +kernel
theorem d_mo_wordAt_32 : decode b_mo_wordAt 32 = .ok (.if_icmp .gt 14, 3) := by decide +kernel
theorem d_mo_wordAt_35 : decode b_mo_wordAt 35 = .ok (.bipush 6, 2) := by decide +kernel
theorem d_mo_wordAt_37 : decode b_mo_wordAt 37 = .ok (.iload_n 0, 1) := by decide +kernel
theorem d_mo_wordAt_38 : decode b_mo_wordAt 38 = .ok (.sipush 192, 3) := by decide +kernel
theorem d_mo_wordAt_41 : decode b_mo_wordAt 41 = .ok (.isub, 1) := by decide +kernel
theorem d_mo_wordAt_42 : decode b_mo_wordAt 42 = .ok (.iconst 4, 1) := by decide +kernel
theorem d_mo_wordAt_43 : decode b_mo_wordAt 43 = .ok (.idiv, 1) := by decide +kernel
theorem d_mo_wordAt_44 : decode b_mo_wordAt 44 = .ok (.iadd, 1) := by decide +kernel
theorem d_mo_wordAt_45 : decode b_mo_wordAt 45 = .ok (.ireturn, 1) := by decide +kernel
theorem d_mo_wordAt_46 : decode b_mo_wordAt 46 = .ok (.iload_n 0, 1) := by decide +kernel
theorem d_mo_wordAt_47 : decode b_mo_wordAt 47 = .ok (.sipush 144, 3) := by decide +kernel
theorem d_mo_wordAt_50 : decode b_mo_wordAt 50 = .ok (.if_icmp .lt 11, 3) := by decide +kernel
theorem d_mo_wordAt_53 : decode b_mo_wordAt 53 = .ok (.iload_n 0, 1) := by decide +kernel
theorem d_mo_wordAt_54 : decode b_mo_wordAt 54 = .ok (.sipush 144, 3) := by decide +kernel
theorem d_mo_wordAt_57 : decode b_mo_wordAt 57 = .ok (.isub, 1) := by decide +kernel
theorem d_mo_wordAt_58 : decode b_mo_wordAt 58 = .ok (.goto 8, 3) := by decide +kernel
theorem d_mo_wordAt_61 : decode b_mo_wordAt 61 = .ok (.iload_n 0, 1) := by decide +kernel
theorem d_mo_wordAt_62 : decode b_mo_wordAt 62 = .ok (.sipush 128, 3) := by decide +kernel
theorem d_mo_wordAt_65 : decode b_mo_wordAt 65 = .ok (.isub, 1) := by decide +kernel
theorem d_mo_wordAt_66 : decode b_mo_wordAt 66 = .ok (.istore_n 1, 1) := by decide +kernel
theorem d_mo_wordAt_67 : decode b_mo_wordAt 67 = .ok (.iload_n 1, 1) := by decide +kernel
theorem d_mo_wordAt_68 : decode b_mo_wordAt 68 = .ok (.ifCond .lt 17, 3) := by decide +kernel
theorem d_mo_wordAt_71 : decode b_mo_wordAt 71 = .ok (.iload_n 1, 1) := by decide +kernel
theorem d_mo_wordAt_72 : decode b_mo_wordAt 72 = .ok (.bipush 8, 2) := by decide +kernel
theorem d_mo_wordAt_74 : decode b_mo_wordAt 74 = .ok (.if_icmp .gt 11, 3) := by decide +kernel
theorem d_mo_wordAt_77 : decode b_mo_wordAt 77 = .ok (.iconst 3, 1) := by decide +kernel
theorem d_mo_wordAt_78 : decode b_mo_wordAt 78 = .ok (.iload_n 1, 1) := by decide +kernel
theorem d_mo_wordAt_79 : decode b_mo_wordAt 79 = .ok (.iconst 4, 1) := by decide +kernel
theorem d_mo_wordAt_80 : decode b_mo_wordAt 80 = .ok (.idiv, 1) := by decide +kernel
theorem d_mo_wordAt_81 : decode b_mo_wordAt 81 = .ok (.iadd, 1) := by decide +kernel
theorem d_mo_wordAt_82 : decode b_mo_wordAt 82 = .ok (.goto 4, 3) := by decide +kernel
theorem d_mo_wordAt_85 : decode b_mo_wordAt 85 = .ok (.iconst 0, 1) := by decide +kernel
theorem d_mo_wordAt_86 : decode b_mo_wordAt 86 = .ok (.ireturn, 1) := by decide +kernel
theorem d_mo_contextAt_0 : decode b_mo_contextAt 0 = .ok (.iload_n 0, 1) := by decide +kernel
theorem d_mo_contextAt_1 : decode b_mo_contextAt 1 = .ok (.sipush 144, 3) := by decide +kernel
theorem d_mo_contextAt_4 : decode b_mo_contextAt 4 = .ok (.if_icmp .lt 7, 3) := by decide +kernel
theorem d_mo_contextAt_7 : decode b_mo_contextAt 7 = .ok (.iconst 1, 1) := by decide +kernel
theorem d_mo_contextAt_8 : decode b_mo_contextAt 8 = .ok (.goto 4, 3) := by decide +kernel
theorem d_mo_contextAt_11 : decode b_mo_contextAt 11 = .ok (.iconst 0, 1) := by decide +kernel
theorem d_mo_contextAt_12 : decode b_mo_contextAt 12 = .ok (.ireturn, 1) := by decide +kernel
theorem d_mo_bar_0 : decode b_mo_bar 0 = .ok (.iload_n 0, 1) := by decide +kernel
theorem d_mo_bar_1 : decode b_mo_bar 1 = .ok (.iconst 4, 1) := by decide +kernel
theorem d_mo_bar_2 : decode b_mo_bar 2 = .ok (.irem, 1) := by decide +kernel
theorem d_mo_bar_3 : decode b_mo_bar 3 = .ok (.ifCond .eq 5, 3) := by decide +kernel
theorem d_mo_bar_6 : decode b_mo_bar 6 = .ok (.iconst 1, 1) := by decide +kernel
theorem d_mo_bar_7 : decode b_mo_bar 7 = .ok (.ireturn, 1) := by decide +kernel
theorem d_mo_bar_8 : decode b_mo_bar 8 = .ok (.iload_n 0, 1) := by decide +kernel
theorem d_mo_bar_9 : decode b_mo_bar 9 = .ok (.invokestatic 71, 3) := by decide +kernel
theorem d_mo_bar_12 : decode b_mo_bar 12 = .ok (.istore_n 2, 1) := by decide +kernel
theorem d_mo_bar_13 : decode b_mo_bar 13 = .ok (.iload_n 2, 1) := by decide +kernel
theorem d_mo_bar_14 : decode b_mo_bar 14 = .ok (.ifCond .ne 7, 3) := by decide +kernel
theorem d_mo_bar_17 : decode b_mo_bar 17 = .ok (.iconst 2, 1) := by decide +kernel
theorem d_mo_bar_18 : decode b_mo_bar 18 = .ok (.goto 17, 3) := by decide +kernel
theorem d_mo_bar_21 : decode b_mo_bar 21 = .ok (.iload_n 1, 1) := by decide +kernel
theorem d_mo_bar_22 : decode b_mo_bar 22 = .ok (.ifCond .eq 12, 3) := by decide +kernel
theorem d_mo_bar_25 : decode b_mo_bar 25 = .ok (.iload_n 2, 1) := by decide +kernel
theorem d_mo_bar_26 : decode b_mo_bar 26 = .ok (.iconst 2, 1) := by decide +kernel
theorem d_mo_bar_27 : decode b_mo_bar 27 = .ok (.if_icmp .ne 7, 3) := by decide +kernel
theorem d_mo_bar_30 : decode b_mo_bar 30 = .ok (.iconst 3, 1) := by decide +kernel
theorem d_mo_bar_31 : decode b_mo_bar 31 = .ok (.goto 4, 3) := by decide +kernel
theorem d_mo_bar_34 : decode b_mo_bar 34 = .ok (.iconst 0, 1) := by decide +kernel
theorem d_mo_bar_35 : decode b_mo_bar 35 = .ok (.ireturn, 1) := by decide +kernel
theorem d_mo_take_0 : decode b_mo_take 0 = .ok (.iload_n 1, 1) := by decide +kernel
theorem d_mo_take_1 : decode b_mo_take 1 = .ok (.invokestatic 75, 3) := by decide +kernel
theorem d_mo_take_4 : decode b_mo_take 4 = .ok (.istore_n 2, 1) := by decide +kernel
theorem d_mo_take_5 : decode b_mo_take 5 = .ok (.iload_n 1, 1) := by decide +kernel
theorem d_mo_take_6 : decode b_mo_take 6 = .ok (.invokestatic 71, 3) := by decide +kernel
theorem d_mo_take_9 : decode b_mo_take 9 = .ok (.tableswitch 111 1 9 #[51, 60, 65, 72, 79, 85, 90, 96, 105], 51) := by decide +kernel
theorem d_mo_take_60 : decode b_mo_take 60 = .ok (.aload_n 0, 1) := by decide +kernel
theorem d_mo_take_61 : decode b_mo_take 61 = .ok (.getfield 20, 3) := by decide +kernel
theorem d_mo_take_64 : decode b_mo_take 64 = .ok (.iload_n 1, 1) := by decide +kernel
theorem d_mo_take_65 : decode b_mo_take 65 = .ok (.iconst 4, 1) := by decide +kernel
theorem d_mo_take_66 : decode b_mo_take 66 = .ok (.idiv, 1) := by decide +kernel
theorem d_mo_take_67 : decode b_mo_take 67 = .ok (.iaload, 1) := by decide +kernel
theorem d_mo_take_68 : decode b_mo_take 68 = .ok (.ireturn, 1) := by decide +kernel
theorem d_mo_take_69 : decode b_mo_take 69 = .ok (.aload_n 0, 1) := by decide +kernel
theorem d_mo_take_70 : decode b_mo_take 70 = .ok (.invokevirtual 60, 3) := by decide +kernel
theorem d_mo_take_73 : decode b_mo_take 73 = .ok (.ireturn, 1) := by decide +kernel
theorem d_mo_take_74 : decode b_mo_take 74 = .ok (.aload_n 0, 1) := by decide +kernel
theorem d_mo_take_75 : decode b_mo_take 75 = .ok (.getfield 33, 3) := by decide +kernel
theorem d_mo_take_78 : decode b_mo_take 78 = .ok (.iload_n 2, 1) := by decide +kernel
theorem d_mo_take_79 : decode b_mo_take 79 = .ok (.iaload, 1) := by decide +kernel
theorem d_mo_take_80 : decode b_mo_take 80 = .ok (.ireturn, 1) := by decide +kernel
theorem d_mo_take_81 : decode b_mo_take 81 = .ok (.aload_n 0, 1) := by decide +kernel
theorem d_mo_take_82 : decode b_mo_take 82 = .ok (.getfield 36, 3) := by decide +kernel
theorem d_mo_take_85 : decode b_mo_take 85 = .ok (.iload_n 2, 1) := by decide +kernel
theorem d_mo_take_86 : decode b_mo_take 86 = .ok (.iaload, 1) := by decide +kernel
theorem d_mo_take_87 : decode b_mo_take 87 = .ok (.ireturn, 1) := by decide +kernel
theorem d_mo_take_88 : decode b_mo_take 88 = .ok (.aload_n 0, 1) := by decide +kernel
theorem d_mo_take_89 : decode b_mo_take 89 = .ok (.iload_n 2, 1) := by decide +kernel
theorem d_mo_take_90 : decode b_mo_take 90 = .ok (.invokevirtual 78, 3) := by decide +kernel
theorem d_mo_take_93 : decode b_mo_take 93 = .ok (.ireturn, 1) := by decide +kernel
theorem d_mo_take_94 : decode b_mo_take 94 = .ok (.aload_n 0, 1) := by decide +kernel
theorem d_mo_take_95 : decode b_mo_take 95 = .ok (.getfield 81, 3) := by decide +kernel
theorem d_mo_take_98 : decode b_mo_take 98 = .ok (.ireturn, 1) := by decide +kernel
theorem d_mo_take_99 : decode b_mo_take 99 = .ok (.aload_n 0, 1) := by decide +kernel
theorem d_mo_take_100 : decode b_mo_take 100 = .ok (.getfield 41, 3) := by decide +kernel
theorem d_mo_take_103 : decode b_mo_take 103 = .ok (.l2i, 1) := by decide +kernel
theorem d_mo_take_104 : decode b_mo_take 104 = .ok (.ireturn, 1) := by decide +kernel
theorem d_mo_take_105 : decode b_mo_take 105 = .ok (.aload_n 0, 1) := by decide +kernel
theorem d_mo_take_106 : decode b_mo_take 106 = .ok (.getfield 41, 3) := by decide +kernel
theorem d_mo_take_109 : decode b_mo_take 109 = .ok (.bipush 32, 2) := by decide +kernel
theorem d_mo_take_111 : decode b_mo_take 111 = .ok (.lshr, 1) := by decide +kernel
theorem d_mo_take_112 : decode b_mo_take 112 = .ok (.l2i, 1) := by decide +kernel
theorem d_mo_take_113 : decode b_mo_take 113 = .ok (.ireturn, 1) := by decide +kernel
theorem d_mo_take_114 : decode b_mo_take 114 = .ok (.aload_n 0, 1) := by decide +kernel
theorem d_mo_take_115 : decode b_mo_take 115 = .ok (.getfield 68, 3) := by decide +kernel
theorem d_mo_take_118 : decode b_mo_take 118 = .ok (.l2i, 1) := by decide +kernel
theorem d_mo_take_119 : decode b_mo_take 119 = .ok (.ireturn, 1) := by decide +kernel
theorem d_mo_take_120 : decode b_mo_take 120 = .ok (.aload_n 0, 1) := by decide +kernel
theorem d_mo_take_121 : decode b_mo_take 121 = .ok (.getfield 68, 3) := by decide +kernel
theorem d_mo_take_124 : decode b_mo_take 124 = .ok (.bipush 32, 2) := by decide +kernel
theorem d_mo_take_126 : decode b_mo_take 126 = .ok (.lshr, 1) := by decide +kernel
theorem d_mo_take_127 : decode b_mo_take 127 = .ok (.l2i, 1) := by decide +kernel
theorem d_mo_take_128 : decode b_mo_take 128 = .ok (.ireturn, 1) := by decide +kernel
theorem d_mo_half_0 : decode b_mo_half 0 = .ok (.iload_n 3, 1) := by decide +kernel
theorem d_mo_half_1 : decode b_mo_half 1 = .ok (.ifCond .eq 11, 3) := by decide +kernel
theorem d_mo_half_4 : decode b_mo_half 4 = .ok (.lload_n 0, 1) := by decide +kernel
theorem d_mo_half_5 : decode b_mo_half 5 = .ok (.ldc2_w 84, 3) := by decide +kernel
theorem d_mo_half_8 : decode b_mo_half 8 = .ok (.land, 1) := by decide +kernel
theorem d_mo_half_9 : decode b_mo_half 9 = .ok (.goto 9, 3) := by decide +kernel
theorem d_mo_half_12 : decode b_mo_half 12 = .ok (.iload_n 2, 1) := by decide +kernel
theorem d_mo_half_13 : decode b_mo_half 13 = .ok (.i2l, 1) := by decide +kernel
theorem d_mo_half_14 : decode b_mo_half 14 = .ok (.ldc2_w 84, 3) := by decide +kernel
theorem d_mo_half_17 : decode b_mo_half 17 = .ok (.land, 1) := by decide +kernel
theorem d_mo_half_18 : decode b_mo_half 18 = .ok (.lstore 4, 2) := by decide +kernel
theorem d_mo_half_20 : decode b_mo_half 20 = .ok (.iload_n 3, 1) := by decide +kernel
theorem d_mo_half_21 : decode b_mo_half 21 = .ok (.ifCond .eq 8, 3) := by decide +kernel
theorem d_mo_half_24 : decode b_mo_half 24 = .ok (.iload_n 2, 1) := by decide +kernel
theorem d_mo_half_25 : decode b_mo_half 25 = .ok (.i2l, 1) := by decide +kernel
theorem d_mo_half_26 : decode b_mo_half 26 = .ok (.goto 7, 3) := by decide +kernel
theorem d_mo_half_29 : decode b_mo_half 29 = .ok (.lload_n 0, 1) := by decide +kernel
theorem d_mo_half_30 : decode b_mo_half 30 = .ok (.bipush 32, 2) := by decide +kernel
theorem d_mo_half_32 : decode b_mo_half 32 = .ok (.lshr, 1) := by decide +kernel
theorem d_mo_half_33 : decode b_mo_half 33 = .ok (.lstore 6, 2) := by decide +kernel
theorem d_mo_half_35 : decode b_mo_half 35 = .ok (.lload 6, 2) := by decide +kernel
theorem d_mo_half_37 : decode b_mo_half 37 = .ok (.bipush 32, 2) := by decide +kernel
theorem d_mo_half_39 : decode b_mo_half 39 = .ok (.lshl, 1) := by decide +kernel
theorem d_mo_half_40 : decode b_mo_half 40 = .ok (.lload 4, 2) := by decide +kernel
theorem d_mo_half_42 : decode b_mo_half 42 = .ok (.lor, 1) := by decide +kernel
theorem d_mo_half_43 : decode b_mo_half 43 = .ok (.lreturn, 1) := by decide +kernel
theorem d_mo_put_0 : decode b_mo_put 0 = .ok (.iload_n 1, 1) := by decide +kernel
theorem d_mo_put_1 : decode b_mo_put 1 = .ok (.invokestatic 75, 3) := by decide +kernel
theorem d_mo_put_4 : decode b_mo_put 4 = .ok (.istore_n 3, 1) := by decide +kernel
theorem d_mo_put_5 : decode b_mo_put 5 = .ok (.iload_n 1, 1) := by decide +kernel
theorem d_mo_put_6 : decode b_mo_put 6 = .ok (.invokestatic 71, 3) := by decide +kernel
theorem d_mo_put_9 : decode b_mo_put 9 = .ok (.tableswitch 159 1 9 #[51, 159, 66, 79, 92, 101, 111, 127, 143], 51) := by decide +kernel
theorem d_mo_put_60 : decode b_mo_put 60 = .ok (.aload_n 0, 1) := by decide +kernel
theorem d_mo_put_61 : decode b_mo_put 61 = .ok (.getfield 20, 3) := by decide +kernel
theorem d_mo_put_64 : decode b_mo_put 64 = .ok (.iload_n 1, 1) := by decide +kernel
theorem d_mo_put_65 : decode b_mo_put 65 = .ok (.iconst 4, 1) := by decide +kernel
theorem d_mo_put_66 : decode b_mo_put 66 = .ok (.idiv, 1) := by decide +kernel
theorem d_mo_put_67 : decode b_mo_put 67 = .ok (.iload_n 2, 1) := by decide +kernel
theorem d_mo_put_68 : decode b_mo_put 68 = .ok (.bipush 7, 2) := by decide +kernel
theorem d_mo_put_70 : decode b_mo_put 70 = .ok (.iand, 1) := by decide +kernel
theorem d_mo_put_71 : decode b_mo_put 71 = .ok (.iastore, 1) := by decide +kernel
theorem d_mo_put_72 : decode b_mo_put 72 = .ok (.goto 109, 3) := by decide +kernel
theorem d_mo_put_75 : decode b_mo_put 75 = .ok (.aload_n 0, 1) := by decide +kernel
theorem d_mo_put_76 : decode b_mo_put 76 = .ok (.getfield 33, 3) := by decide +kernel
theorem d_mo_put_79 : decode b_mo_put 79 = .ok (.iload_n 3, 1) := by decide +kernel
theorem d_mo_put_80 : decode b_mo_put 80 = .ok (.iload_n 2, 1) := by decide +kernel
theorem d_mo_put_81 : decode b_mo_put 81 = .ok (.ldc 86, 2) := by decide +kernel
theorem d_mo_put_83 : decode b_mo_put 83 = .ok (.iand, 1) := by decide +kernel
theorem d_mo_put_84 : decode b_mo_put 84 = .ok (.iastore, 1) := by decide +kernel
theorem d_mo_put_85 : decode b_mo_put 85 = .ok (.goto 96, 3) := by decide +kernel
theorem d_mo_put_88 : decode b_mo_put 88 = .ok (.aload_n 0, 1) := by decide +kernel
theorem d_mo_put_89 : decode b_mo_put 89 = .ok (.getfield 36, 3) := by decide +kernel
theorem d_mo_put_92 : decode b_mo_put 92 = .ok (.iload_n 3, 1) := by decide +kernel
theorem d_mo_put_93 : decode b_mo_put 93 = .ok (.iload_n 2, 1) := by decide +kernel
theorem d_mo_put_94 : decode b_mo_put 94 = .ok (.bipush 7, 2) := by decide +kernel
theorem d_mo_put_96 : decode b_mo_put 96 = .ok (.iand, 1) := by decide +kernel
theorem d_mo_put_97 : decode b_mo_put 97 = .ok (.iastore, 1) := by decide +kernel
theorem d_mo_put_98 : decode b_mo_put 98 = .ok (.goto 83, 3) := by decide +kernel
theorem d_mo_put_101 : decode b_mo_put 101 = .ok (.aload_n 0, 1) := by decide +kernel
theorem d_mo_put_102 : decode b_mo_put 102 = .ok (.iload_n 3, 1) := by decide +kernel
theorem d_mo_put_103 : decode b_mo_put 103 = .ok (.iload_n 2, 1) := by decide +kernel
theorem d_mo_put_104 : decode b_mo_put 104 = .ok (.invokevirtual 87, 3) := by decide +kernel
theorem d_mo_put_107 : decode b_mo_put 107 = .ok (.goto 74, 3) := by decide +kernel
theorem d_mo_put_110 : decode b_mo_put 110 = .ok (.aload_n 0, 1) := by decide +kernel
theorem d_mo_put_111 : decode b_mo_put 111 = .ok (.iload_n 2, 1) := by decide +kernel
theorem d_mo_put_112 : decode b_mo_put 112 = .ok (.iconst 1, 1) := by decide +kernel
theorem d_mo_put_113 : decode b_mo_put 113 = .ok (.iand, 1) := by decide +kernel
theorem d_mo_put_114 : decode b_mo_put 114 = .ok (.putfield 81, 3) := by decide +kernel
theorem d_mo_put_117 : decode b_mo_put 117 = .ok (.goto 64, 3) := by decide +kernel
theorem d_mo_put_120 : decode b_mo_put 120 = .ok (.aload_n 0, 1) := by decide +kernel
theorem d_mo_put_121 : decode b_mo_put 121 = .ok (.aload_n 0, 1) := by decide +kernel
theorem d_mo_put_122 : decode b_mo_put 122 = .ok (.getfield 41, 3) := by decide +kernel
theorem d_mo_put_125 : decode b_mo_put 125 = .ok (.iload_n 2, 1) := by decide +kernel
theorem d_mo_put_126 : decode b_mo_put 126 = .ok (.iconst 0, 1) := by decide +kernel
theorem d_mo_put_127 : decode b_mo_put 127 = .ok (.invokestatic 91, 3) := by decide +kernel
theorem d_mo_put_130 : decode b_mo_put 130 = .ok (.putfield 41, 3) := by decide +kernel
theorem d_mo_put_133 : decode b_mo_put 133 = .ok (.goto 48, 3) := by decide +kernel
theorem d_mo_put_136 : decode b_mo_put 136 = .ok (.aload_n 0, 1) := by decide +kernel
theorem d_mo_put_137 : decode b_mo_put 137 = .ok (.aload_n 0, 1) := by decide +kernel
theorem d_mo_put_138 : decode b_mo_put 138 = .ok (.getfield 41, 3) := by decide +kernel
theorem d_mo_put_141 : decode b_mo_put 141 = .ok (.iload_n 2, 1) := by decide +kernel
theorem d_mo_put_142 : decode b_mo_put 142 = .ok (.iconst 1, 1) := by decide +kernel
theorem d_mo_put_143 : decode b_mo_put 143 = .ok (.invokestatic 91, 3) := by decide +kernel
theorem d_mo_put_146 : decode b_mo_put 146 = .ok (.putfield 41, 3) := by decide +kernel
theorem d_mo_put_149 : decode b_mo_put 149 = .ok (.goto 32, 3) := by decide +kernel
theorem d_mo_put_152 : decode b_mo_put 152 = .ok (.aload_n 0, 1) := by decide +kernel
theorem d_mo_put_153 : decode b_mo_put 153 = .ok (.aload_n 0, 1) := by decide +kernel
theorem d_mo_put_154 : decode b_mo_put 154 = .ok (.getfield 68, 3) := by decide +kernel
theorem d_mo_put_157 : decode b_mo_put 157 = .ok (.iload_n 2, 1) := by decide +kernel
theorem d_mo_put_158 : decode b_mo_put 158 = .ok (.iconst 0, 1) := by decide +kernel
theorem d_mo_put_159 : decode b_mo_put 159 = .ok (.invokestatic 91, 3) := by decide +kernel
theorem d_mo_put_162 : decode b_mo_put 162 = .ok (.putfield 68, 3) := by decide +kernel
theorem d_mo_put_165 : decode b_mo_put 165 = .ok (.goto 16, 3) := by decide +kernel
theorem d_mo_put_168 : decode b_mo_put 168 = .ok (.aload_n 0, 1) := by decide +kernel
theorem d_mo_put_169 : decode b_mo_put 169 = .ok (.aload_n 0, 1) := by decide +kernel
theorem d_mo_put_170 : decode b_mo_put 170 = .ok (.getfield 68, 3) := by decide +kernel
theorem d_mo_put_173 : decode b_mo_put 173 = .ok (.iload_n 2, 1) := by decide +kernel
theorem d_mo_put_174 : decode b_mo_put 174 = .ok (.iconst 1, 1) := by decide +kernel
theorem d_mo_put_175 : decode b_mo_put 175 = .ok (.invokestatic 91, 3) := by decide +kernel
theorem d_mo_put_178 : decode b_mo_put 178 = .ok (.putfield 68, 3) := by decide +kernel
theorem d_mo_put_181 : decode b_mo_put 181 = .ok (.return_, 1) := by decide +kernel
theorem d_mo_load_0 : decode b_mo_load 0 = .ok (.aload_n 0, 1) := by decide +kernel
theorem d_mo_load_1 : decode b_mo_load 1 = .ok (.iload_n 1, 1) := by decide +kernel
theorem d_mo_load_2 : decode b_mo_load 2 = .ok (.iconst 0, 1) := by decide +kernel
theorem d_mo_load_3 : decode b_mo_load 3 = .ok (.invokestatic 95, 3) := by decide +kernel
theorem d_mo_load_6 : decode b_mo_load 6 = .ok (.putfield 54, 3) := by decide +kernel
theorem d_mo_load_9 : decode b_mo_load 9 = .ok (.aload_n 0, 1) := by decide +kernel
theorem d_mo_load_10 : decode b_mo_load 10 = .ok (.getfield 54, 3) := by decide +kernel
theorem d_mo_load_13 : decode b_mo_load 13 = .ok (.ifCond .ne 11, 3) := by decide +kernel
theorem d_mo_load_16 : decode b_mo_load 16 = .ok (.aload_n 0, 1) := by decide +kernel
theorem d_mo_load_17 : decode b_mo_load 17 = .ok (.iload_n 1, 1) := by decide +kernel
theorem d_mo_load_18 : decode b_mo_load 18 = .ok (.invokevirtual 99, 3) := by decide +kernel
theorem d_mo_load_21 : decode b_mo_load 21 = .ok (.goto 4, 3) := by decide +kernel
theorem d_mo_load_24 : decode b_mo_load 24 = .ok (.iconst 0, 1) := by decide +kernel
theorem d_mo_load_25 : decode b_mo_load 25 = .ok (.ireturn, 1) := by decide +kernel
theorem d_mo_store_0 : decode b_mo_store 0 = .ok (.aload_n 0, 1) := by decide +kernel
theorem d_mo_store_1 : decode b_mo_store 1 = .ok (.iload_n 1, 1) := by decide +kernel
theorem d_mo_store_2 : decode b_mo_store 2 = .ok (.iconst 1, 1) := by decide +kernel
theorem d_mo_store_3 : decode b_mo_store 3 = .ok (.invokestatic 95, 3) := by decide +kernel
theorem d_mo_store_6 : decode b_mo_store 6 = .ok (.putfield 54, 3) := by decide +kernel
theorem d_mo_store_9 : decode b_mo_store 9 = .ok (.aload_n 0, 1) := by decide +kernel
theorem d_mo_store_10 : decode b_mo_store 10 = .ok (.getfield 54, 3) := by decide +kernel
theorem d_mo_store_13 : decode b_mo_store 13 = .ok (.ifCond .ne 9, 3) := by decide +kernel
theorem d_mo_store_16 : decode b_mo_store 16 = .ok (.aload_n 0, 1) := by decide +kernel
theorem d_mo_store_17 : decode b_mo_store 17 = .ok (.iload_n 1, 1) := by decide +kernel
theorem d_mo_store_18 : decode b_mo_store 18 = .ok (.iload_n 2, 1) := by decide +kernel
theorem d_mo_store_19 : decode b_mo_store 19 = .ok (.invokevirtual 102, 3) := by decide +kernel
theorem d_mo_store_22 : decode b_mo_store 22 = .ok (.return_, 1) := by decide +kernel
theorem d_mo_access_0 : decode b_mo_access 0 = .ok (.aload_n 0, 1) := by decide +kernel
theorem d_mo_access_1 : decode b_mo_access 1 = .ok (.iconst 0, 1) := by decide +kernel
theorem d_mo_access_2 : decode b_mo_access 2 = .ok (.putfield 54, 3) := by decide +kernel
theorem d_mo_access_5 : decode b_mo_access 5 = .ok (.iload_n 1, 1) := by decide +kernel
theorem d_mo_access_6 : decode b_mo_access 6 = .ok (.iload_n 2, 1) := by decide +kernel
theorem d_mo_access_7 : decode b_mo_access 7 = .ok (.invokestatic 95, 3) := by decide +kernel
theorem d_mo_access_10 : decode b_mo_access 10 = .ok (.istore 4, 2) := by decide +kernel
theorem d_mo_access_12 : decode b_mo_access 12 = .ok (.iload 4, 2) := by decide +kernel
theorem d_mo_access_14 : decode b_mo_access 14 = .ok (.ifCond .le 42, 3) := by decide +kernel
theorem d_mo_access_17 : decode b_mo_access 17 = .ok (.iload_n 2, 1) := by decide +kernel
theorem d_mo_access_18 : decode b_mo_access 18 = .ok (.ifCond .eq 8, 3) := by decide +kernel
theorem d_mo_access_21 : decode b_mo_access 21 = .ok (.bipush 6, 2) := by decide +kernel
theorem d_mo_access_23 : decode b_mo_access 23 = .ok (.goto 4, 3) := by decide +kernel
theorem d_mo_access_26 : decode b_mo_access 26 = .ok (.iconst 4, 1) := by decide +kernel
theorem d_mo_access_27 : decode b_mo_access 27 = .ok (.iload 4, 2) := by decide +kernel
theorem d_mo_access_29 : decode b_mo_access 29 = .ok (.iconst 1, 1) := by decide +kernel
theorem d_mo_access_30 : decode b_mo_access 30 = .ok (.if_icmp .ne 7, 3) := by decide +kernel
theorem d_mo_access_33 : decode b_mo_access 33 = .ok (.iconst 0, 1) := by decide +kernel
theorem d_mo_access_34 : decode b_mo_access 34 = .ok (.goto 4, 3) := by decide +kernel
theorem d_mo_access_37 : decode b_mo_access 37 = .ok (.iconst 1, 1) := by decide +kernel
theorem d_mo_access_38 : decode b_mo_access 38 = .ok (.iadd, 1) := by decide +kernel
theorem d_mo_access_39 : decode b_mo_access 39 = .ok (.istore 5, 2) := by decide +kernel
theorem d_mo_access_41 : decode b_mo_access 41 = .ok (.aload_n 0, 1) := by decide +kernel
theorem d_mo_access_42 : decode b_mo_access 42 = .ok (.iload 5, 2) := by decide +kernel
theorem d_mo_access_44 : decode b_mo_access 44 = .ok (.iconst 0, 1) := by decide +kernel
theorem d_mo_access_45 : decode b_mo_access 45 = .ok (.invokevirtual 105, 3) := by decide +kernel
theorem d_mo_access_48 : decode b_mo_access 48 = .ok (.ldc2_w 39, 3) := by decide +kernel
theorem d_mo_access_51 : decode b_mo_access 51 = .ok (.iload 5, 2) := by decide +kernel
theorem d_mo_access_53 : decode b_mo_access 53 = .ok (.i2l, 1) := by decide +kernel
theorem d_mo_access_54 : decode b_mo_access 54 = .ok (.lsub, 1) := by decide +kernel
theorem d_mo_access_55 : decode b_mo_access 55 = .ok (.lreturn, 1) := by decide +kernel
theorem d_mo_access_56 : decode b_mo_access 56 = .ok (.aload_n 0, 1) := by decide +kernel
theorem d_mo_access_57 : decode b_mo_access 57 = .ok (.aload_n 0, 1) := by decide +kernel
theorem d_mo_access_58 : decode b_mo_access 58 = .ok (.getfield 109, 3) := by decide +kernel
theorem d_mo_access_61 : decode b_mo_access 61 = .ok (.iconst 4, 1) := by decide +kernel
theorem d_mo_access_62 : decode b_mo_access 62 = .ok (.iadd, 1) := by decide +kernel
theorem d_mo_access_63 : decode b_mo_access 63 = .ok (.putfield 109, 3) := by decide +kernel
theorem d_mo_access_66 : decode b_mo_access 66 = .ok (.iload_n 2, 1) := by decide +kernel
theorem d_mo_access_67 : decode b_mo_access 67 = .ok (.ifCond .eq 11, 3) := by decide +kernel
theorem d_mo_access_70 : decode b_mo_access 70 = .ok (.aload_n 0, 1) := by decide +kernel
theorem d_mo_access_71 : decode b_mo_access 71 = .ok (.iload_n 1, 1) := by decide +kernel
theorem d_mo_access_72 : decode b_mo_access 72 = .ok (.iload_n 3, 1) := by decide +kernel
theorem d_mo_access_73 : decode b_mo_access 73 = .ok (.invokevirtual 102, 3) := by decide +kernel
theorem d_mo_access_76 : decode b_mo_access 76 = .ok (.lconst 0, 1) := by decide +kernel
theorem d_mo_access_77 : decode b_mo_access 77 = .ok (.lreturn, 1) := by decide +kernel
theorem d_mo_access_78 : decode b_mo_access 78 = .ok (.aload_n 0, 1) := by decide +kernel
theorem d_mo_access_79 : decode b_mo_access 79 = .ok (.iload_n 1, 1) := by decide +kernel
theorem d_mo_access_80 : decode b_mo_access 80 = .ok (.invokevirtual 99, 3) := by decide +kernel
theorem d_mo_access_83 : decode b_mo_access 83 = .ok (.istore 5, 2) := by decide +kernel
theorem d_mo_access_85 : decode b_mo_access 85 = .ok (.iload 5, 2) := by decide +kernel
theorem d_mo_access_87 : decode b_mo_access 87 = .ok (.i2l, 1) := by decide +kernel
theorem d_mo_access_88 : decode b_mo_access 88 = .ok (.ldc2_w 84, 3) := by decide +kernel
theorem d_mo_access_91 : decode b_mo_access 91 = .ok (.land, 1) := by decide +kernel
theorem d_mo_access_92 : decode b_mo_access 92 = .ok (.lreturn, 1) := by decide +kernel
theorem d_mo_late_0 : decode b_mo_late 0 = .ok (.aload_n 0, 1) := by decide +kernel
theorem d_mo_late_1 : decode b_mo_late 1 = .ok (.getfield 68, 3) := by decide +kernel
theorem d_mo_late_4 : decode b_mo_late 4 = .ok (.ldc2_w 112, 3) := by decide +kernel
theorem d_mo_late_7 : decode b_mo_late 7 = .ok (.lxor, 1) := by decide +kernel
theorem d_mo_late_8 : decode b_mo_late 8 = .ok (.aload_n 0, 1) := by decide +kernel
theorem d_mo_late_9 : decode b_mo_late 9 = .ok (.getfield 41, 3) := by decide +kernel
theorem d_mo_late_12 : decode b_mo_late 12 = .ok (.ldc2_w 112, 3) := by decide +kernel
theorem d_mo_late_15 : decode b_mo_late 15 = .ok (.lxor, 1) := by decide +kernel
theorem d_mo_late_16 : decode b_mo_late 16 = .ok (.lcmp, 1) := by decide +kernel
theorem d_mo_late_17 : decode b_mo_late 17 = .ok (.ifCond .lt 7, 3) := by decide +kernel
theorem d_mo_late_20 : decode b_mo_late 20 = .ok (.iconst 1, 1) := by decide +kernel
theorem d_mo_late_21 : decode b_mo_late 21 = .ok (.goto 4, 3) := by decide +kernel
theorem d_mo_late_24 : decode b_mo_late 24 = .ok (.iconst 0, 1) := by decide +kernel
theorem d_mo_late_25 : decode b_mo_late 25 = .ok (.ireturn, 1) := by decide +kernel
theorem d_mo_interrupts_0 : decode b_mo_interrupts 0 = .ok (.aload_n 0, 1) := by decide +kernel
theorem d_mo_interrupts_1 : decode b_mo_interrupts 1 = .ok (.getfield 114, 3) := by decide +kernel
theorem d_mo_interrupts_4 : decode b_mo_interrupts 4 = .ok (.istore_n 1, 1) := by decide +kernel
theorem d_mo_interrupts_5 : decode b_mo_interrupts 5 = .ok (.aload_n 0, 1) := by decide +kernel
theorem d_mo_interrupts_6 : decode b_mo_interrupts 6 = .ok (.getfield 81, 3) := by decide +kernel
theorem d_mo_interrupts_9 : decode b_mo_interrupts 9 = .ok (.iconst 1, 1) := by decide +kernel
theorem d_mo_interrupts_10 : decode b_mo_interrupts 10 = .ok (.if_icmp .ne 10, 3) := by decide +kernel
theorem d_mo_interrupts_13 : decode b_mo_interrupts 13 = .ok (.iload_n 1, 1) := by decide +kernel
theorem d_mo_interrupts_14 : decode b_mo_interrupts 14 = .ok (.bipush 8, 2) := by decide +kernel
theorem d_mo_interrupts_16 : decode b_mo_interrupts 16 = .ok (.ior, 1) := by decide +kernel
theorem d_mo_interrupts_17 : decode b_mo_interrupts 17 = .ok (.goto 4, 3) := by decide +kernel
theorem d_mo_interrupts_20 : decode b_mo_interrupts 20 = .ok (.iload_n 1, 1) := by decide +kernel
theorem d_mo_interrupts_21 : decode b_mo_interrupts 21 = .ok (.istore_n 1, 1) := by decide +kernel
theorem d_mo_interrupts_22 : decode b_mo_interrupts 22 = .ok (.aload_n 0, 1) := by decide +kernel
theorem d_mo_interrupts_23 : decode b_mo_interrupts 23 = .ok (.invokevirtual 117, 3) := by decide +kernel
theorem d_mo_interrupts_26 : decode b_mo_interrupts 26 = .ok (.ifCond .eq 11, 3) := by decide +kernel
theorem d_mo_interrupts_29 : decode b_mo_interrupts 29 = .ok (.iload_n 1, 1) := by decide +kernel
theorem d_mo_interrupts_30 : decode b_mo_interrupts 30 = .ok (.sipush 128, 3) := by decide +kernel
theorem d_mo_interrupts_33 : decode b_mo_interrupts 33 = .ok (.ior, 1) := by decide +kernel
theorem d_mo_interrupts_34 : decode b_mo_interrupts 34 = .ok (.goto 4, 3) := by decide +kernel
theorem d_mo_interrupts_37 : decode b_mo_interrupts 37 = .ok (.iload_n 1, 1) := by decide +kernel
theorem d_mo_interrupts_38 : decode b_mo_interrupts 38 = .ok (.istore_n 1, 1) := by decide +kernel
theorem d_mo_interrupts_39 : decode b_mo_interrupts 39 = .ok (.aload_n 0, 1) := by decide +kernel
theorem d_mo_interrupts_40 : decode b_mo_interrupts 40 = .ok (.iconst 0, 1) := by decide +kernel
theorem d_mo_interrupts_41 : decode b_mo_interrupts 41 = .ok (.invokevirtual 121, 3) := by decide +kernel
theorem d_mo_interrupts_44 : decode b_mo_interrupts 44 = .ok (.ifCond .eq 11, 3) := by decide +kernel
theorem d_mo_interrupts_47 : decode b_mo_interrupts 47 = .ok (.iload_n 1, 1) := by decide +kernel
theorem d_mo_interrupts_48 : decode b_mo_interrupts 48 = .ok (.sipush 2048, 3) := by decide +kernel
theorem d_mo_interrupts_51 : decode b_mo_interrupts 51 = .ok (.ior, 1) := by decide +kernel
theorem d_mo_interrupts_52 : decode b_mo_interrupts 52 = .ok (.goto 4, 3) := by decide +kernel
theorem d_mo_interrupts_55 : decode b_mo_interrupts 55 = .ok (.iload_n 1, 1) := by decide +kernel
theorem d_mo_interrupts_56 : decode b_mo_interrupts 56 = .ok (.istore_n 1, 1) := by decide +kernel
theorem d_mo_interrupts_57 : decode b_mo_interrupts 57 = .ok (.aload_n 0, 1) := by decide +kernel
theorem d_mo_interrupts_58 : decode b_mo_interrupts 58 = .ok (.iconst 1, 1) := by decide +kernel
theorem d_mo_interrupts_59 : decode b_mo_interrupts 59 = .ok (.invokevirtual 121, 3) := by decide +kernel
theorem d_mo_interrupts_62 : decode b_mo_interrupts 62 = .ok (.ifCond .eq 11, 3) := by decide +kernel
theorem d_mo_interrupts_65 : decode b_mo_interrupts 65 = .ok (.iload_n 1, 1) := by decide +kernel
theorem d_mo_interrupts_66 : decode b_mo_interrupts 66 = .ok (.sipush 512, 3) := by decide +kernel
theorem d_mo_interrupts_69 : decode b_mo_interrupts 69 = .ok (.ior, 1) := by decide +kernel
theorem d_mo_interrupts_70 : decode b_mo_interrupts 70 = .ok (.goto 4, 3) := by decide +kernel
theorem d_mo_interrupts_73 : decode b_mo_interrupts 73 = .ok (.iload_n 1, 1) := by decide +kernel
theorem d_mo_interrupts_74 : decode b_mo_interrupts 74 = .ok (.ireturn, 1) := by decide +kernel
theorem d_mo_isRegister_0 : decode b_mo_isRegister 0 = .ok (.iload_n 0, 1) := by decide +kernel
theorem d_mo_isRegister_1 : decode b_mo_isRegister 1 = .ok (.sipush 768, 3) := by decide +kernel
theorem d_mo_isRegister_4 : decode b_mo_isRegister 4 = .ok (.if_icmp .eq 80, 3) := by decide +kernel
theorem d_mo_isRegister_7 : decode b_mo_isRegister 7 = .ok (.iload_n 0, 1) := by decide +kernel
theorem d_mo_isRegister_8 : decode b_mo_isRegister 8 = .ok (.sipush 770, 3) := by decide +kernel
theorem d_mo_isRegister_11 : decode b_mo_isRegister 11 = .ok (.if_icmp .lt 10, 3) := by decide +kernel
theorem d_mo_isRegister_14 : decode b_mo_isRegister 14 = .ok (.iload_n 0, 1) := by decide +kernel
theorem d_mo_isRegister_15 : decode b_mo_isRegister 15 = .ok (.sipush 773, 3) := by decide +kernel
theorem d_mo_isRegister_18 : decode b_mo_isRegister 18 = .ok (.if_icmp .le 66, 3) := by decide +kernel
theorem d_mo_isRegister_21 : decode b_mo_isRegister 21 = .ok (.iload_n 0, 1) := by decide +kernel
theorem d_mo_isRegister_22 : decode b_mo_isRegister 22 = .ok (.sipush 833, 3) := by decide +kernel
theorem d_mo_isRegister_25 : decode b_mo_isRegister 25 = .ok (.if_icmp .eq 59, 3) := by decide +kernel
theorem d_mo_isRegister_28 : decode b_mo_isRegister 28 = .ok (.iload_n 0, 1) := by decide +kernel
theorem d_mo_isRegister_29 : decode b_mo_isRegister 29 = .ok (.sipush 834, 3) := by decide +kernel
theorem d_mo_isRegister_32 : decode b_mo_isRegister 32 = .ok (.if_icmp .eq 52, 3) := by decide +kernel
theorem d_mo_isRegister_35 : decode b_mo_isRegister 35 = .ok (.iload_n 0, 1) := by decide +kernel
theorem d_mo_isRegister_36 : decode b_mo_isRegister 36 = .ok (.sipush 836, 3) := by decide +kernel
theorem d_mo_isRegister_39 : decode b_mo_isRegister 39 = .ok (.if_icmp .eq 45, 3) := by decide +kernel
theorem d_mo_isRegister_42 : decode b_mo_isRegister 42 = .ok (.iload_n 0, 1) := by decide +kernel
theorem d_mo_isRegister_43 : decode b_mo_isRegister 43 = .ok (.sipush 256, 3) := by decide +kernel
theorem d_mo_isRegister_46 : decode b_mo_isRegister 46 = .ok (.if_icmp .eq 38, 3) := by decide +kernel
theorem d_mo_isRegister_49 : decode b_mo_isRegister 49 = .ok (.iload_n 0, 1) := by decide +kernel
theorem d_mo_isRegister_50 : decode b_mo_isRegister 50 = .ok (.sipush 260, 3) := by decide +kernel
theorem d_mo_isRegister_53 : decode b_mo_isRegister 53 = .ok (.if_icmp .eq 31, 3) := by decide +kernel
theorem d_mo_isRegister_56 : decode b_mo_isRegister 56 = .ok (.iload_n 0, 1) := by decide +kernel
theorem d_mo_isRegister_57 : decode b_mo_isRegister 57 = .ok (.sipush 261, 3) := by decide +kernel
theorem d_mo_isRegister_60 : decode b_mo_isRegister 60 = .ok (.if_icmp .eq 24, 3) := by decide +kernel
theorem d_mo_isRegister_63 : decode b_mo_isRegister 63 = .ok (.iload_n 0, 1) := by decide +kernel
theorem d_mo_isRegister_64 : decode b_mo_isRegister 64 = .ok (.sipush 321, 3) := by decide +kernel
theorem d_mo_isRegister_67 : decode b_mo_isRegister 67 = .ok (.if_icmp .eq 17, 3) := by decide +kernel
theorem d_mo_isRegister_70 : decode b_mo_isRegister 70 = .ok (.iload_n 0, 1) := by decide +kernel
theorem d_mo_isRegister_71 : decode b_mo_isRegister 71 = .ok (.sipush 322, 3) := by decide +kernel
theorem d_mo_isRegister_74 : decode b_mo_isRegister 74 = .ok (.if_icmp .eq 10, 3) := by decide +kernel
theorem d_mo_isRegister_77 : decode b_mo_isRegister 77 = .ok (.iload_n 0, 1) := by decide +kernel
theorem d_mo_isRegister_78 : decode b_mo_isRegister 78 = .ok (.sipush 324, 3) := by decide +kernel
theorem d_mo_isRegister_81 : decode b_mo_isRegister 81 = .ok (.if_icmp .ne 7, 3) := by decide +kernel
theorem d_mo_isRegister_84 : decode b_mo_isRegister 84 = .ok (.iconst 1, 1) := by decide +kernel
theorem d_mo_isRegister_85 : decode b_mo_isRegister 85 = .ok (.goto 4, 3) := by decide +kernel
theorem d_mo_isRegister_88 : decode b_mo_isRegister 88 = .ok (.iconst 0, 1) := by decide +kernel
theorem d_mo_isRegister_89 : decode b_mo_isRegister 89 = .ok (.ireturn, 1) := by decide +kernel
theorem d_mo_barRegister_0 : decode b_mo_barRegister 0 = .ok (.iload_n 1, 1) := by decide +kernel
theorem d_mo_barRegister_1 : decode b_mo_barRegister 1 = .ok (.invokestatic 125, 3) := by decide +kernel
theorem d_mo_barRegister_4 : decode b_mo_barRegister 4 = .ok (.ifCond .ne 5, 3) := by decide +kernel
theorem d_mo_barRegister_7 : decode b_mo_barRegister 7 = .ok (.iconst 1, 1) := by decide +kernel
theorem d_mo_barRegister_8 : decode b_mo_barRegister 8 = .ok (.ireturn, 1) := by decide +kernel
theorem d_mo_barRegister_9 : decode b_mo_barRegister 9 = .ok (.aload_n 0, 1) := by decide +kernel
theorem d_mo_barRegister_10 : decode b_mo_barRegister 10 = .ok (.getfield 7, 3) := by decide +kernel
theorem d_mo_barRegister_13 : decode b_mo_barRegister 13 = .ok (.ifCond .eq 18, 3) := by decide +kernel
theorem d_mo_barRegister_16 : decode b_mo_barRegister 16 = .ok (.iload_n 1, 1) := by decide +kernel
theorem d_mo_barRegister_17 : decode b_mo_barRegister 17 = .ok (.sipush 768, 3) := by decide +kernel
theorem d_mo_barRegister_20 : decode b_mo_barRegister 20 = .ok (.if_icmp .lt 15, 3) := by decide +kernel
theorem d_mo_barRegister_23 : decode b_mo_barRegister 23 = .ok (.aload_n 0, 1) := by decide +kernel
theorem d_mo_barRegister_24 : decode b_mo_barRegister 24 = .ok (.getfield 7, 3) := by decide +kernel
theorem d_mo_barRegister_27 : decode b_mo_barRegister 27 = .ok (.iconst 3, 1) := by decide +kernel
theorem d_mo_barRegister_28 : decode b_mo_barRegister 28 = .ok (.if_icmp .ge 7, 3) := by decide +kernel
theorem d_mo_barRegister_31 : decode b_mo_barRegister 31 = .ok (.iconst 2, 1) := by decide +kernel
theorem d_mo_barRegister_32 : decode b_mo_barRegister 32 = .ok (.goto 4, 3) := by decide +kernel
theorem d_mo_barRegister_35 : decode b_mo_barRegister 35 = .ok (.iconst 0, 1) := by decide +kernel
theorem d_mo_barRegister_36 : decode b_mo_barRegister 36 = .ok (.ireturn, 1) := by decide +kernel
theorem d_mo_read_0 : decode b_mo_read 0 = .ok (.aload_n 0, 1) := by decide +kernel
theorem d_mo_read_1 : decode b_mo_read 1 = .ok (.aload_n 0, 1) := by decide +kernel
theorem d_mo_read_2 : decode b_mo_read 2 = .ok (.iload_n 1, 1) := by decide +kernel
theorem d_mo_read_3 : decode b_mo_read 3 = .ok (.invokevirtual 128, 3) := by decide +kernel
theorem d_mo_read_6 : decode b_mo_read 6 = .ok (.putfield 54, 3) := by decide +kernel
theorem d_mo_read_9 : decode b_mo_read 9 = .ok (.aload_n 0, 1) := by decide +kernel
theorem d_mo_read_10 : decode b_mo_read 10 = .ok (.getfield 54, 3) := by decide +kernel
theorem d_mo_read_13 : decode b_mo_read 13 = .ok (.ifCond .le 5, 3) := by decide +kernel
theorem d_mo_read_16 : decode b_mo_read 16 = .ok (.iconst 0, 1) := by decide +kernel
theorem d_mo_read_17 : decode b_mo_read 17 = .ok (.ireturn, 1) := by decide +kernel
theorem d_mo_read_18 : decode b_mo_read 18 = .ok (.iload_n 1, 1) := by decide +kernel
theorem d_mo_read_19 : decode b_mo_read 19 = .ok (.lookupswitch 195 #[(256, 130), (260, 139), (261, 159), (321, 177), (324, 149), (768, 105), (770, 110), (771, 115), (772, 120), (773, 159), (833, 177), (836, 125)], 105) := by decide +kernel
theorem d_mo_read_124 : decode b_mo_read 124 = .ok (.aload_n 0, 1) := by decide +kernel
theorem d_mo_read_125 : decode b_mo_read 125 = .ok (.getfield 131, 3) := by decide +kernel
theorem d_mo_read_128 : decode b_mo_read 128 = .ok (.ireturn, 1) := by decide +kernel
theorem d_mo_read_129 : decode b_mo_read 129 = .ok (.aload_n 0, 1) := by decide +kernel
theorem d_mo_read_130 : decode b_mo_read 130 = .ok (.getfield 134, 3) := by decide +kernel
theorem d_mo_read_133 : decode b_mo_read 133 = .ok (.ireturn, 1) := by decide +kernel
theorem d_mo_read_134 : decode b_mo_read 134 = .ok (.aload_n 0, 1) := by decide +kernel
theorem d_mo_read_135 : decode b_mo_read 135 = .ok (.getfield 137, 3) := by decide +kernel
theorem d_mo_read_138 : decode b_mo_read 138 = .ok (.ireturn, 1) := by decide +kernel
theorem d_mo_read_139 : decode b_mo_read 139 = .ok (.aload_n 0, 1) := by decide +kernel
theorem d_mo_read_140 : decode b_mo_read 140 = .ok (.getfield 140, 3) := by decide +kernel
theorem d_mo_read_143 : decode b_mo_read 143 = .ok (.ireturn, 1) := by decide +kernel
theorem d_mo_read_144 : decode b_mo_read 144 = .ok (.aload_n 0, 1) := by decide +kernel
theorem d_mo_read_145 : decode b_mo_read 145 = .ok (.invokevirtual 143, 3) := by decide +kernel
theorem d_mo_read_148 : decode b_mo_read 148 = .ok (.ireturn, 1) := by decide +kernel
theorem d_mo_read_149 : decode b_mo_read 149 = .ok (.aload_n 0, 1) := by decide +kernel
theorem d_mo_read_150 : decode b_mo_read 150 = .ok (.getfield 131, 3) := by decide +kernel
theorem d_mo_read_153 : decode b_mo_read 153 = .ok (.sipush 290, 3) := by decide +kernel
theorem d_mo_read_156 : decode b_mo_read 156 = .ok (.iand, 1) := by decide +kernel
theorem d_mo_read_157 : decode b_mo_read 157 = .ok (.ireturn, 1) := by decide +kernel
theorem d_mo_read_158 : decode b_mo_read 158 = .ok (.aload_n 0, 1) := by decide +kernel
theorem d_mo_read_159 : decode b_mo_read 159 = .ok (.getfield 140, 3) := by decide +kernel
theorem d_mo_read_162 : decode b_mo_read 162 = .ok (.aload_n 0, 1) := by decide +kernel
theorem d_mo_read_163 : decode b_mo_read 163 = .ok (.getfield 137, 3) := by decide +kernel
theorem d_mo_read_166 : decode b_mo_read 166 = .ok (.iand, 1) := by decide +kernel
theorem d_mo_read_167 : decode b_mo_read 167 = .ok (.ireturn, 1) := by decide +kernel
theorem d_mo_read_168 : decode b_mo_read 168 = .ok (.aload_n 0, 1) := by decide +kernel
theorem d_mo_read_169 : decode b_mo_read 169 = .ok (.invokevirtual 143, 3) := by decide +kernel
theorem d_mo_read_172 : decode b_mo_read 172 = .ok (.aload_n 0, 1) := by decide +kernel
theorem d_mo_read_173 : decode b_mo_read 173 = .ok (.getfield 137, 3) := by decide +kernel
theorem d_mo_read_176 : decode b_mo_read 176 = .ok (.iand, 1) := by decide +kernel
theorem d_mo_read_177 : decode b_mo_read 177 = .ok (.ireturn, 1) := by decide +kernel
theorem d_mo_read_178 : decode b_mo_read 178 = .ok (.aload_n 0, 1) := by decide +kernel
theorem d_mo_read_179 : decode b_mo_read 179 = .ok (.getfield 45, 3) := by decide +kernel
theorem d_mo_read_182 : decode b_mo_read 182 = .ok (.iload_n 1, 1) := by decide +kernel
theorem d_mo_read_183 : decode b_mo_read 183 = .ok (.sipush 261, 3) := by decide +kernel
theorem d_mo_read_186 : decode b_mo_read 186 = .ok (.if_icmp .ne 7, 3) := by decide +kernel
theorem d_mo_read_189 : decode b_mo_read 189 = .ok (.iconst 1, 1) := by decide +kernel
theorem d_mo_read_190 : decode b_mo_read 190 = .ok (.goto 4, 3) := by decide +kernel
theorem d_mo_read_193 : decode b_mo_read 193 = .ok (.iconst 0, 1) := by decide +kernel
theorem d_mo_read_194 : decode b_mo_read 194 = .ok (.iaload, 1) := by decide +kernel
theorem d_mo_read_195 : decode b_mo_read 195 = .ok (.ireturn, 1) := by decide +kernel
theorem d_mo_read_196 : decode b_mo_read 196 = .ok (.aload_n 0, 1) := by decide +kernel
theorem d_mo_read_197 : decode b_mo_read 197 = .ok (.getfield 48, 3) := by decide +kernel
theorem d_mo_read_200 : decode b_mo_read 200 = .ok (.iload_n 1, 1) := by decide +kernel
theorem d_mo_read_201 : decode b_mo_read 201 = .ok (.sipush 321, 3) := by decide +kernel
theorem d_mo_read_204 : decode b_mo_read 204 = .ok (.if_icmp .ne 7, 3) := by decide +kernel
theorem d_mo_read_207 : decode b_mo_read 207 = .ok (.iconst 1, 1) := by decide +kernel
theorem d_mo_read_208 : decode b_mo_read 208 = .ok (.goto 4, 3) := by decide +kernel
theorem d_mo_read_211 : decode b_mo_read 211 = .ok (.iconst 0, 1) := by decide +kernel
theorem d_mo_read_212 : decode b_mo_read 212 = .ok (.iaload, 1) := by decide +kernel
theorem d_mo_read_213 : decode b_mo_read 213 = .ok (.ireturn, 1) := by decide +kernel
theorem d_mo_read_214 : decode b_mo_read 214 = .ok (.aload_n 0, 1) := by decide +kernel
theorem d_mo_read_215 : decode b_mo_read 215 = .ok (.getfield 51, 3) := by decide +kernel
theorem d_mo_read_218 : decode b_mo_read 218 = .ok (.iload_n 1, 1) := by decide +kernel
theorem d_mo_read_219 : decode b_mo_read 219 = .ok (.sipush 322, 3) := by decide +kernel
theorem d_mo_read_222 : decode b_mo_read 222 = .ok (.if_icmp .ne 7, 3) := by decide +kernel
theorem d_mo_read_225 : decode b_mo_read 225 = .ok (.iconst 1, 1) := by decide +kernel
theorem d_mo_read_226 : decode b_mo_read 226 = .ok (.goto 4, 3) := by decide +kernel
theorem d_mo_read_229 : decode b_mo_read 229 = .ok (.iconst 0, 1) := by decide +kernel
theorem d_mo_read_230 : decode b_mo_read 230 = .ok (.iaload, 1) := by decide +kernel
theorem d_mo_read_231 : decode b_mo_read 231 = .ok (.ireturn, 1) := by decide +kernel
theorem d_mo_mixed_0 : decode b_mo_mixed 0 = .ok (.iload_n 0, 1) := by decide +kernel
theorem d_mo_mixed_1 : decode b_mo_mixed 1 = .ok (.iload_n 2, 1) := by decide +kernel
theorem d_mo_mixed_2 : decode b_mo_mixed 2 = .ok (.iconst (-1), 1) := by decide +kernel
theorem d_mo_mixed_3 : decode b_mo_mixed 3 = .ok (.ixor, 1) := by decide +kernel
theorem d_mo_mixed_4 : decode b_mo_mixed 4 = .ok (.iand, 1) := by decide +kernel
theorem d_mo_mixed_5 : decode b_mo_mixed 5 = .ok (.iload_n 1, 1) := by decide +kernel
theorem d_mo_mixed_6 : decode b_mo_mixed 6 = .ok (.iload_n 2, 1) := by decide +kernel
theorem d_mo_mixed_7 : decode b_mo_mixed 7 = .ok (.iand, 1) := by decide +kernel
theorem d_mo_mixed_8 : decode b_mo_mixed 8 = .ok (.ior, 1) := by decide +kernel
theorem d_mo_mixed_9 : decode b_mo_mixed 9 = .ok (.ireturn, 1) := by decide +kernel
theorem d_mo_write_0 : decode b_mo_write 0 = .ok (.aload_n 0, 1) := by decide +kernel
theorem d_mo_write_1 : decode b_mo_write 1 = .ok (.aload_n 0, 1) := by decide +kernel
theorem d_mo_write_2 : decode b_mo_write 2 = .ok (.iload_n 1, 1) := by decide +kernel
theorem d_mo_write_3 : decode b_mo_write 3 = .ok (.invokevirtual 128, 3) := by decide +kernel
theorem d_mo_write_6 : decode b_mo_write 6 = .ok (.putfield 54, 3) := by decide +kernel
theorem d_mo_write_9 : decode b_mo_write 9 = .ok (.aload_n 0, 1) := by decide +kernel
theorem d_mo_write_10 : decode b_mo_write 10 = .ok (.getfield 54, 3) := by decide +kernel
theorem d_mo_write_13 : decode b_mo_write 13 = .ok (.ifCond .le 4, 3) := by decide +kernel
theorem d_mo_write_16 : decode b_mo_write 16 = .ok (.return_, 1) := by decide +kernel
theorem d_mo_write_17 : decode b_mo_write 17 = .ok (.iload_n 1, 1) := by decide +kernel
theorem d_mo_write_18 : decode b_mo_write 18 = .ok (.lookupswitch 293 #[(256, 187), (260, 205), (261, 245), (321, 269), (324, 224), (768, 106), (770, 140), (771, 151), (772, 163), (773, 245), (833, 269), (836, 175)], 106) := by decide +kernel
theorem d_mo_write_124 : decode b_mo_write 124 = .ok (.aload_n 0, 1) := by decide +kernel
theorem d_mo_write_125 : decode b_mo_write 125 = .ok (.aload_n 0, 1) := by decide +kernel
theorem d_mo_write_126 : decode b_mo_write 126 = .ok (.getfield 131, 3) := by decide +kernel
theorem d_mo_write_129 : decode b_mo_write 129 = .ok (.iload_n 2, 1) := by decide +kernel
theorem d_mo_write_130 : decode b_mo_write 130 = .ok (.iload_n 2, 1) := by decide +kernel
theorem d_mo_write_131 : decode b_mo_write 131 = .ok (.bipush 11, 2) := by decide +kernel
theorem d_mo_write_133 : decode b_mo_write 133 = .ok (.ishr, 1) := by decide +kernel
theorem d_mo_write_134 : decode b_mo_write 134 = .ok (.iconst 3, 1) := by decide +kernel
theorem d_mo_write_135 : decode b_mo_write 135 = .ok (.iand, 1) := by decide +kernel
theorem d_mo_write_136 : decode b_mo_write 136 = .ok (.iconst 2, 1) := by decide +kernel
theorem d_mo_write_137 : decode b_mo_write 137 = .ok (.if_icmp .ne 9, 3) := by decide +kernel
theorem d_mo_write_140 : decode b_mo_write 140 = .ok (.sipush 426, 3) := by decide +kernel
theorem d_mo_write_143 : decode b_mo_write 143 = .ok (.goto 6, 3) := by decide +kernel
theorem d_mo_write_146 : decode b_mo_write 146 = .ok (.sipush 6570, 3) := by decide +kernel
theorem d_mo_write_149 : decode b_mo_write 149 = .ok (.invokestatic 146, 3) := by decide +kernel
theorem d_mo_write_152 : decode b_mo_write 152 = .ok (.putfield 131, 3) := by decide +kernel
theorem d_mo_write_155 : decode b_mo_write 155 = .ok (.goto 174, 3) := by decide +kernel
theorem d_mo_write_158 : decode b_mo_write 158 = .ok (.aload_n 0, 1) := by decide +kernel
theorem d_mo_write_159 : decode b_mo_write 159 = .ok (.iload_n 2, 1) := by decide +kernel
theorem d_mo_write_160 : decode b_mo_write 160 = .ok (.ldc 150, 2) := by decide +kernel
theorem d_mo_write_162 : decode b_mo_write 162 = .ok (.iand, 1) := by decide +kernel
theorem d_mo_write_163 : decode b_mo_write 163 = .ok (.putfield 134, 3) := by decide +kernel
theorem d_mo_write_166 : decode b_mo_write 166 = .ok (.goto 163, 3) := by decide +kernel
theorem d_mo_write_169 : decode b_mo_write 169 = .ok (.aload_n 0, 1) := by decide +kernel
theorem d_mo_write_170 : decode b_mo_write 170 = .ok (.iload_n 2, 1) := by decide +kernel
theorem d_mo_write_171 : decode b_mo_write 171 = .ok (.sipush 546, 3) := by decide +kernel
theorem d_mo_write_174 : decode b_mo_write 174 = .ok (.iand, 1) := by decide +kernel
theorem d_mo_write_175 : decode b_mo_write 175 = .ok (.putfield 137, 3) := by decide +kernel
theorem d_mo_write_178 : decode b_mo_write 178 = .ok (.goto 151, 3) := by decide +kernel
theorem d_mo_write_181 : decode b_mo_write 181 = .ok (.aload_n 0, 1) := by decide +kernel
theorem d_mo_write_182 : decode b_mo_write 182 = .ok (.iload_n 2, 1) := by decide +kernel
theorem d_mo_write_183 : decode b_mo_write 183 = .ok (.sipush 2730, 3) := by decide +kernel
theorem d_mo_write_186 : decode b_mo_write 186 = .ok (.iand, 1) := by decide +kernel
theorem d_mo_write_187 : decode b_mo_write 187 = .ok (.putfield 140, 3) := by decide +kernel
theorem d_mo_write_190 : decode b_mo_write 190 = .ok (.goto 139, 3) := by decide +kernel
theorem d_mo_write_193 : decode b_mo_write 193 = .ok (.aload_n 0, 1) := by decide +kernel
theorem d_mo_write_194 : decode b_mo_write 194 = .ok (.iload_n 2, 1) := by decide +kernel
theorem d_mo_write_195 : decode b_mo_write 195 = .ok (.sipush 546, 3) := by decide +kernel
theorem d_mo_write_198 : decode b_mo_write 198 = .ok (.iand, 1) := by decide +kernel
theorem d_mo_write_199 : decode b_mo_write 199 = .ok (.putfield 114, 3) := by decide +kernel
theorem d_mo_write_202 : decode b_mo_write 202 = .ok (.goto 127, 3) := by decide +kernel
theorem d_mo_write_205 : decode b_mo_write 205 = .ok (.aload_n 0, 1) := by decide +kernel
theorem d_mo_write_206 : decode b_mo_write 206 = .ok (.aload_n 0, 1) := by decide +kernel
theorem d_mo_write_207 : decode b_mo_write 207 = .ok (.getfield 131, 3) := by decide +kernel
theorem d_mo_write_210 : decode b_mo_write 210 = .ok (.iload_n 2, 1) := by decide +kernel
theorem d_mo_write_211 : decode b_mo_write 211 = .ok (.sipush 290, 3) := by decide +kernel
theorem d_mo_write_214 : decode b_mo_write 214 = .ok (.invokestatic 146, 3) := by decide +kernel
theorem d_mo_write_217 : decode b_mo_write 217 = .ok (.putfield 131, 3) := by decide +kernel
theorem d_mo_write_220 : decode b_mo_write 220 = .ok (.goto 109, 3) := by decide +kernel
theorem d_mo_write_223 : decode b_mo_write 223 = .ok (.aload_n 0, 1) := by decide +kernel
theorem d_mo_write_224 : decode b_mo_write 224 = .ok (.aload_n 0, 1) := by decide +kernel
theorem d_mo_write_225 : decode b_mo_write 225 = .ok (.getfield 140, 3) := by decide +kernel
theorem d_mo_write_228 : decode b_mo_write 228 = .ok (.iload_n 2, 1) := by decide +kernel
theorem d_mo_write_229 : decode b_mo_write 229 = .ok (.aload_n 0, 1) := by decide +kernel
theorem d_mo_write_230 : decode b_mo_write 230 = .ok (.getfield 137, 3) := by decide +kernel
theorem d_mo_write_233 : decode b_mo_write 233 = .ok (.invokestatic 146, 3) := by decide +kernel
theorem d_mo_write_236 : decode b_mo_write 236 = .ok (.putfield 140, 3) := by decide +kernel
theorem d_mo_write_239 : decode b_mo_write 239 = .ok (.goto 90, 3) := by decide +kernel
theorem d_mo_write_242 : decode b_mo_write 242 = .ok (.aload_n 0, 1) := by decide +kernel
theorem d_mo_write_243 : decode b_mo_write 243 = .ok (.aload_n 0, 1) := by decide +kernel
theorem d_mo_write_244 : decode b_mo_write 244 = .ok (.getfield 114, 3) := by decide +kernel
theorem d_mo_write_247 : decode b_mo_write 247 = .ok (.iload_n 2, 1) := by decide +kernel
theorem d_mo_write_248 : decode b_mo_write 248 = .ok (.aload_n 0, 1) := by decide +kernel
theorem d_mo_write_249 : decode b_mo_write 249 = .ok (.getfield 137, 3) := by decide +kernel
theorem d_mo_write_252 : decode b_mo_write 252 = .ok (.iconst 2, 1) := by decide +kernel
theorem d_mo_write_253 : decode b_mo_write 253 = .ok (.iand, 1) := by decide +kernel
theorem d_mo_write_254 : decode b_mo_write 254 = .ok (.invokestatic 146, 3) := by decide +kernel
theorem d_mo_write_257 : decode b_mo_write 257 = .ok (.putfield 114, 3) := by decide +kernel
theorem d_mo_write_260 : decode b_mo_write 260 = .ok (.goto 69, 3) := by decide +kernel
theorem d_mo_write_263 : decode b_mo_write 263 = .ok (.aload_n 0, 1) := by decide +kernel
theorem d_mo_write_264 : decode b_mo_write 264 = .ok (.getfield 45, 3) := by decide +kernel
theorem d_mo_write_267 : decode b_mo_write 267 = .ok (.iload_n 1, 1) := by decide +kernel
theorem d_mo_write_268 : decode b_mo_write 268 = .ok (.sipush 261, 3) := by decide +kernel
theorem d_mo_write_271 : decode b_mo_write 271 = .ok (.if_icmp .ne 7, 3) := by decide +kernel
theorem d_mo_write_274 : decode b_mo_write 274 = .ok (.iconst 1, 1) := by decide +kernel
theorem d_mo_write_275 : decode b_mo_write 275 = .ok (.goto 4, 3) := by decide +kernel
theorem d_mo_write_278 : decode b_mo_write 278 = .ok (.iconst 0, 1) := by decide +kernel
theorem d_mo_write_279 : decode b_mo_write 279 = .ok (.iload_n 2, 1) := by decide +kernel
theorem d_mo_write_280 : decode b_mo_write 280 = .ok (.bipush (-3), 2) := by decide +kernel
theorem d_mo_write_282 : decode b_mo_write 282 = .ok (.iand, 1) := by decide +kernel
theorem d_mo_write_283 : decode b_mo_write 283 = .ok (.iastore, 1) := by decide +kernel
theorem d_mo_write_284 : decode b_mo_write 284 = .ok (.goto 45, 3) := by decide +kernel
theorem d_mo_write_287 : decode b_mo_write 287 = .ok (.aload_n 0, 1) := by decide +kernel
theorem d_mo_write_288 : decode b_mo_write 288 = .ok (.getfield 48, 3) := by decide +kernel
theorem d_mo_write_291 : decode b_mo_write 291 = .ok (.iload_n 1, 1) := by decide +kernel
theorem d_mo_write_292 : decode b_mo_write 292 = .ok (.sipush 321, 3) := by decide +kernel
theorem d_mo_write_295 : decode b_mo_write 295 = .ok (.if_icmp .ne 7, 3) := by decide +kernel
theorem d_mo_write_298 : decode b_mo_write 298 = .ok (.iconst 1, 1) := by decide +kernel
