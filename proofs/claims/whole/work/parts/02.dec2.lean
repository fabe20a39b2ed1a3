theorem d_mo_write_299 : decode b_mo_write 299 = .ok (.goto 4, 3) := by decide +kernel
theorem d_mo_write_302 : decode b_mo_write 302 = .ok (.iconst 0, 1) := by decide +kernel
theorem d_mo_write_303 : decode b_mo_write 303 = .ok (.iload_n 2, 1) := by decide +kernel
theorem d_mo_write_304 : decode b_mo_write 304 = .ok (.bipush (-4), 2) := by decide +kernel
theorem d_mo_write_306 : decode b_mo_write 306 = .ok (.iand, 1) := by decide +kernel
theorem d_mo_write_307 : decode b_mo_write 307 = .ok (.iastore, 1) := by decide +kernel
theorem d_mo_write_308 : decode b_mo_write 308 = .ok (.goto 21, 3) := by decide +kernel
theorem d_mo_write_311 : decode b_mo_write 311 = .ok (.aload_n 0, 1) := by decide +kernel
theorem d_mo_write_312 : decode b_mo_write 312 = .ok (.getfield 51, 3) := by decide +kernel
theorem d_mo_write_315 : decode b_mo_write 315 = .ok (.iload_n 1, 1) := by decide +kernel
theorem d_mo_write_316 : decode b_mo_write 316 = .ok (.sipush 322, 3) := by decide +kernel
theorem d_mo_write_319 : decode b_mo_write 319 = .ok (.if_icmp .ne 7, 3) := by decide +kernel
theorem d_mo_write_322 : decode b_mo_write 322 = .ok (.iconst 1, 1) := by decide +kernel
theorem d_mo_write_323 : decode b_mo_write 323 = .ok (.goto 4, 3) := by decide +kernel
theorem d_mo_write_326 : decode b_mo_write 326 = .ok (.iconst 0, 1) := by decide +kernel
theorem d_mo_write_327 : decode b_mo_write 327 = .ok (.iload_n 2, 1) := by decide +kernel
theorem d_mo_write_328 : decode b_mo_write 328 = .ok (.iastore, 1) := by decide +kernel
theorem d_mo_write_329 : decode b_mo_write 329 = .ok (.return_, 1) := by decide +kernel
theorem d_mo_bit_0 : decode b_mo_bit 0 = .ok (.aload_n 0, 1) := by decide +kernel
theorem d_mo_bit_1 : decode b_mo_bit 1 = .ok (.getfield 131, 3) := by decide +kernel
theorem d_mo_bit_4 : decode b_mo_bit 4 = .ok (.iload_n 1, 1) := by decide +kernel
theorem d_mo_bit_5 : decode b_mo_bit 5 = .ok (.ishr, 1) := by decide +kernel
theorem d_mo_bit_6 : decode b_mo_bit 6 = .ok (.iconst 1, 1) := by decide +kernel
theorem d_mo_bit_7 : decode b_mo_bit 7 = .ok (.iand, 1) := by decide +kernel
theorem d_mo_bit_8 : decode b_mo_bit 8 = .ok (.iconst 1, 1) := by decide +kernel
theorem d_mo_bit_9 : decode b_mo_bit 9 = .ok (.if_icmp .ne 7, 3) := by decide +kernel
theorem d_mo_bit_12 : decode b_mo_bit 12 = .ok (.iconst 1, 1) := by decide +kernel
theorem d_mo_bit_13 : decode b_mo_bit 13 = .ok (.goto 4, 3) := by decide +kernel
theorem d_mo_bit_16 : decode b_mo_bit 16 = .ok (.iconst 0, 1) := by decide +kernel
theorem d_mo_bit_17 : decode b_mo_bit 17 = .ok (.ireturn, 1) := by decide +kernel
theorem d_mo_setBit_0 : decode b_mo_setBit 0 = .ok (.aload_n 0, 1) := by decide +kernel
theorem d_mo_setBit_1 : decode b_mo_setBit 1 = .ok (.iload_n 2, 1) := by decide +kernel
theorem d_mo_setBit_2 : decode b_mo_setBit 2 = .ok (.ifCond .eq 14, 3) := by decide +kernel
theorem d_mo_setBit_5 : decode b_mo_setBit 5 = .ok (.aload_n 0, 1) := by decide +kernel
theorem d_mo_setBit_6 : decode b_mo_setBit 6 = .ok (.getfield 131, 3) := by decide +kernel
theorem d_mo_setBit_9 : decode b_mo_setBit 9 = .ok (.iconst 1, 1) := by decide +kernel
theorem d_mo_setBit_10 : decode b_mo_setBit 10 = .ok (.iload_n 1, 1) := by decide +kernel
theorem d_mo_setBit_11 : decode b_mo_setBit 11 = .ok (.ishl, 1) := by decide +kernel
theorem d_mo_setBit_12 : decode b_mo_setBit 12 = .ok (.ior, 1) := by decide +kernel
theorem d_mo_setBit_13 : decode b_mo_setBit 13 = .ok (.goto 13, 3) := by decide +kernel
theorem d_mo_setBit_16 : decode b_mo_setBit 16 = .ok (.aload_n 0, 1) := by decide +kernel
theorem d_mo_setBit_17 : decode b_mo_setBit 17 = .ok (.getfield 131, 3) := by decide +kernel
theorem d_mo_setBit_20 : decode b_mo_setBit 20 = .ok (.iconst 1, 1) := by decide +kernel
theorem d_mo_setBit_21 : decode b_mo_setBit 21 = .ok (.iload_n 1, 1) := by decide +kernel
theorem d_mo_setBit_22 : decode b_mo_setBit 22 = .ok (.ishl, 1) := by decide +kernel
theorem d_mo_setBit_23 : decode b_mo_setBit 23 = .ok (.iconst (-1), 1) := by decide +kernel
theorem d_mo_setBit_24 : decode b_mo_setBit 24 = .ok (.ixor, 1) := by decide +kernel
theorem d_mo_setBit_25 : decode b_mo_setBit 25 = .ok (.iand, 1) := by decide +kernel
theorem d_mo_setBit_26 : decode b_mo_setBit 26 = .ok (.putfield 131, 3) := by decide +kernel
theorem d_mo_setBit_29 : decode b_mo_setBit 29 = .ok (.return_, 1) := by decide +kernel
theorem d_mo_trap_0 : decode b_mo_trap 0 = .ok (.iload_n 2, 1) := by decide +kernel
theorem d_mo_trap_1 : decode b_mo_trap 1 = .ok (.ifCond .eq 10, 3) := by decide +kernel
theorem d_mo_trap_4 : decode b_mo_trap 4 = .ok (.aload_n 0, 1) := by decide +kernel
theorem d_mo_trap_5 : decode b_mo_trap 5 = .ok (.getfield 137, 3) := by decide +kernel
theorem d_mo_trap_8 : decode b_mo_trap 8 = .ok (.goto 7, 3) := by decide +kernel
theorem d_mo_trap_11 : decode b_mo_trap 11 = .ok (.aload_n 0, 1) := by decide +kernel
theorem d_mo_trap_12 : decode b_mo_trap 12 = .ok (.getfield 134, 3) := by decide +kernel
theorem d_mo_trap_15 : decode b_mo_trap 15 = .ok (.istore_n 3, 1) := by decide +kernel
theorem d_mo_trap_16 : decode b_mo_trap 16 = .ok (.aload_n 0, 1) := by decide +kernel
theorem d_mo_trap_17 : decode b_mo_trap 17 = .ok (.getfield 7, 3) := by decide +kernel
theorem d_mo_trap_20 : decode b_mo_trap 20 = .ok (.iconst 3, 1) := by decide +kernel
theorem d_mo_trap_21 : decode b_mo_trap 21 = .ok (.if_icmp .ge 16, 3) := by decide +kernel
theorem d_mo_trap_24 : decode b_mo_trap 24 = .ok (.iload_n 3, 1) := by decide +kernel
theorem d_mo_trap_25 : decode b_mo_trap 25 = .ok (.iload_n 1, 1) := by decide +kernel
theorem d_mo_trap_26 : decode b_mo_trap 26 = .ok (.ishr, 1) := by decide +kernel
theorem d_mo_trap_27 : decode b_mo_trap 27 = .ok (.iconst 1, 1) := by decide +kernel
theorem d_mo_trap_28 : decode b_mo_trap 28 = .ok (.iand, 1) := by decide +kernel
theorem d_mo_trap_29 : decode b_mo_trap 29 = .ok (.iconst 1, 1) := by decide +kernel
theorem d_mo_trap_30 : decode b_mo_trap 30 = .ok (.if_icmp .ne 7, 3) := by decide +kernel
theorem d_mo_trap_33 : decode b_mo_trap 33 = .ok (.iconst 1, 1) := by decide +kernel
theorem d_mo_trap_34 : decode b_mo_trap 34 = .ok (.goto 4, 3) := by decide +kernel
theorem d_mo_trap_37 : decode b_mo_trap 37 = .ok (.iconst 0, 1) := by decide +kernel
theorem d_mo_trap_38 : decode b_mo_trap 38 = .ok (.istore 4, 2) := by decide +kernel
theorem d_mo_trap_40 : decode b_mo_trap 40 = .ok (.aload_n 0, 1) := by decide +kernel
theorem d_mo_trap_41 : decode b_mo_trap 41 = .ok (.getfield 48, 3) := by decide +kernel
theorem d_mo_trap_44 : decode b_mo_trap 44 = .ok (.iload 4, 2) := by decide +kernel
theorem d_mo_trap_46 : decode b_mo_trap 46 = .ok (.aload_n 0, 1) := by decide +kernel
theorem d_mo_trap_47 : decode b_mo_trap 47 = .ok (.getfield 109, 3) := by decide +kernel
theorem d_mo_trap_50 : decode b_mo_trap 50 = .ok (.bipush (-4), 2) := by decide +kernel
theorem d_mo_trap_52 : decode b_mo_trap 52 = .ok (.iand, 1) := by decide +kernel
theorem d_mo_trap_53 : decode b_mo_trap 53 = .ok (.iastore, 1) := by decide +kernel
theorem d_mo_trap_54 : decode b_mo_trap 54 = .ok (.aload_n 0, 1) := by decide +kernel
theorem d_mo_trap_55 : decode b_mo_trap 55 = .ok (.getfield 51, 3) := by decide +kernel
theorem d_mo_trap_58 : decode b_mo_trap 58 = .ok (.iload 4, 2) := by decide +kernel
theorem d_mo_trap_60 : decode b_mo_trap 60 = .ok (.iload_n 2, 1) := by decide +kernel
theorem d_mo_trap_61 : decode b_mo_trap 61 = .ok (.ifCond .eq 10, 3) := by decide +kernel
theorem d_mo_trap_64 : decode b_mo_trap 64 = .ok (.iload_n 1, 1) := by decide +kernel
theorem d_mo_trap_65 : decode b_mo_trap 65 = .ok (.ldc 151, 2) := by decide +kernel
theorem d_mo_trap_67 : decode b_mo_trap 67 = .ok (.ior, 1) := by decide +kernel
theorem d_mo_trap_68 : decode b_mo_trap 68 = .ok (.goto 4, 3) := by decide +kernel
theorem d_mo_trap_71 : decode b_mo_trap 71 = .ok (.iload_n 1, 1) := by decide +kernel
theorem d_mo_trap_72 : decode b_mo_trap 72 = .ok (.iastore, 1) := by decide +kernel
theorem d_mo_trap_73 : decode b_mo_trap 73 = .ok (.iload 4, 2) := by decide +kernel
theorem d_mo_trap_75 : decode b_mo_trap 75 = .ok (.iconst 1, 1) := by decide +kernel
theorem d_mo_trap_76 : decode b_mo_trap 76 = .ok (.if_icmp .ne 46, 3) := by decide +kernel
theorem d_mo_trap_79 : decode b_mo_trap 79 = .ok (.aload_n 0, 1) := by decide +kernel
theorem d_mo_trap_80 : decode b_mo_trap 80 = .ok (.iconst 5, 1) := by decide +kernel
theorem d_mo_trap_81 : decode b_mo_trap 81 = .ok (.aload_n 0, 1) := by decide +kernel
theorem d_mo_trap_82 : decode b_mo_trap 82 = .ok (.iconst 1, 1) := by decide +kernel
theorem d_mo_trap_83 : decode b_mo_trap 83 = .ok (.invokevirtual 152, 3) := by decide +kernel
theorem d_mo_trap_86 : decode b_mo_trap 86 = .ok (.invokevirtual 155, 3) := by decide +kernel
theorem d_mo_trap_89 : decode b_mo_trap 89 = .ok (.aload_n 0, 1) := by decide +kernel
theorem d_mo_trap_90 : decode b_mo_trap 90 = .ok (.iconst 1, 1) := by decide +kernel
theorem d_mo_trap_91 : decode b_mo_trap 91 = .ok (.iconst 0, 1) := by decide +kernel
theorem d_mo_trap_92 : decode b_mo_trap 92 = .ok (.invokevirtual 155, 3) := by decide +kernel
theorem d_mo_trap_95 : decode b_mo_trap 95 = .ok (.aload_n 0, 1) := by decide +kernel
theorem d_mo_trap_96 : decode b_mo_trap 96 = .ok (.bipush 8, 2) := by decide +kernel
theorem d_mo_trap_98 : decode b_mo_trap 98 = .ok (.aload_n 0, 1) := by decide +kernel
theorem d_mo_trap_99 : decode b_mo_trap 99 = .ok (.getfield 7, 3) := by decide +kernel
theorem d_mo_trap_102 : decode b_mo_trap 102 = .ok (.iconst 1, 1) := by decide +kernel
theorem d_mo_trap_103 : decode b_mo_trap 103 = .ok (.if_icmp .ne 7, 3) := by decide +kernel
theorem d_mo_trap_106 : decode b_mo_trap 106 = .ok (.iconst 1, 1) := by decide +kernel
theorem d_mo_trap_107 : decode b_mo_trap 107 = .ok (.goto 4, 3) := by decide +kernel
theorem d_mo_trap_110 : decode b_mo_trap 110 = .ok (.iconst 0, 1) := by decide +kernel
theorem d_mo_trap_111 : decode b_mo_trap 111 = .ok (.invokevirtual 155, 3) := by decide +kernel
theorem d_mo_trap_114 : decode b_mo_trap 114 = .ok (.aload_n 0, 1) := by decide +kernel
theorem d_mo_trap_115 : decode b_mo_trap 115 = .ok (.iconst 1, 1) := by decide +kernel
theorem d_mo_trap_116 : decode b_mo_trap 116 = .ok (.putfield 7, 3) := by decide +kernel
theorem d_mo_trap_119 : decode b_mo_trap 119 = .ok (.goto 46, 3) := by decide +kernel
theorem d_mo_trap_122 : decode b_mo_trap 122 = .ok (.aload_n 0, 1) := by decide +kernel
theorem d_mo_trap_123 : decode b_mo_trap 123 = .ok (.bipush 7, 2) := by decide +kernel
theorem d_mo_trap_125 : decode b_mo_trap 125 = .ok (.aload_n 0, 1) := by decide +kernel
theorem d_mo_trap_126 : decode b_mo_trap 126 = .ok (.iconst 3, 1) := by decide +kernel
theorem d_mo_trap_127 : decode b_mo_trap 127 = .ok (.invokevirtual 152, 3) := by decide +kernel
theorem d_mo_trap_130 : decode b_mo_trap 130 = .ok (.invokevirtual 155, 3) := by decide +kernel
theorem d_mo_trap_133 : decode b_mo_trap 133 = .ok (.aload_n 0, 1) := by decide +kernel
theorem d_mo_trap_134 : decode b_mo_trap 134 = .ok (.iconst 3, 1) := by decide +kernel
theorem d_mo_trap_135 : decode b_mo_trap 135 = .ok (.iconst 0, 1) := by decide +kernel
theorem d_mo_trap_136 : decode b_mo_trap 136 = .ok (.invokevirtual 155, 3) := by decide +kernel
theorem d_mo_trap_139 : decode b_mo_trap 139 = .ok (.aload_n 0, 1) := by decide +kernel
theorem d_mo_trap_140 : decode b_mo_trap 140 = .ok (.aload_n 0, 1) := by decide +kernel
theorem d_mo_trap_141 : decode b_mo_trap 141 = .ok (.getfield 131, 3) := by decide +kernel
theorem d_mo_trap_144 : decode b_mo_trap 144 = .ok (.aload_n 0, 1) := by decide +kernel
theorem d_mo_trap_145 : decode b_mo_trap 145 = .ok (.getfield 7, 3) := by decide +kernel
theorem d_mo_trap_148 : decode b_mo_trap 148 = .ok (.bipush 11, 2) := by decide +kernel
theorem d_mo_trap_150 : decode b_mo_trap 150 = .ok (.ishl, 1) := by decide +kernel
theorem d_mo_trap_151 : decode b_mo_trap 151 = .ok (.sipush 6144, 3) := by decide +kernel
theorem d_mo_trap_154 : decode b_mo_trap 154 = .ok (.invokestatic 146, 3) := by decide +kernel
theorem d_mo_trap_157 : decode b_mo_trap 157 = .ok (.putfield 131, 3) := by decide +kernel
theorem d_mo_trap_160 : decode b_mo_trap 160 = .ok (.aload_n 0, 1) := by decide +kernel
theorem d_mo_trap_161 : decode b_mo_trap 161 = .ok (.iconst 3, 1) := by decide +kernel
theorem d_mo_trap_162 : decode b_mo_trap 162 = .ok (.putfield 7, 3) := by decide +kernel
theorem d_mo_trap_165 : decode b_mo_trap 165 = .ok (.aload_n 0, 1) := by decide +kernel
theorem d_mo_trap_166 : decode b_mo_trap 166 = .ok (.aload_n 0, 1) := by decide +kernel
theorem d_mo_trap_167 : decode b_mo_trap 167 = .ok (.getfield 45, 3) := by decide +kernel
theorem d_mo_trap_170 : decode b_mo_trap 170 = .ok (.iload 4, 2) := by decide +kernel
theorem d_mo_trap_172 : decode b_mo_trap 172 = .ok (.iaload, 1) := by decide +kernel
theorem d_mo_trap_173 : decode b_mo_trap 173 = .ok (.bipush (-4), 2) := by decide +kernel
theorem d_mo_trap_175 : decode b_mo_trap 175 = .ok (.iand, 1) := by decide +kernel
theorem d_mo_trap_176 : decode b_mo_trap 176 = .ok (.putfield 109, 3) := by decide +kernel
theorem d_mo_trap_179 : decode b_mo_trap 179 = .ok (.iload_n 2, 1) := by decide +kernel
theorem d_mo_trap_180 : decode b_mo_trap 180 = .ok (.ifCond .eq 28, 3) := by decide +kernel
theorem d_mo_trap_183 : decode b_mo_trap 183 = .ok (.aload_n 0, 1) := by decide +kernel
theorem d_mo_trap_184 : decode b_mo_trap 184 = .ok (.getfield 45, 3) := by decide +kernel
theorem d_mo_trap_187 : decode b_mo_trap 187 = .ok (.iload 4, 2) := by decide +kernel
theorem d_mo_trap_189 : decode b_mo_trap 189 = .ok (.iaload, 1) := by decide +kernel
theorem d_mo_trap_190 : decode b_mo_trap 190 = .ok (.iconst 1, 1) := by decide +kernel
theorem d_mo_trap_191 : decode b_mo_trap 191 = .ok (.iand, 1) := by decide +kernel
theorem d_mo_trap_192 : decode b_mo_trap 192 = .ok (.iconst 1, 1) := by decide +kernel
theorem d_mo_trap_193 : decode b_mo_trap 193 = .ok (.if_icmp .ne 15, 3) := by decide +kernel
theorem d_mo_trap_196 : decode b_mo_trap 196 = .ok (.aload_n 0, 1) := by decide +kernel
theorem d_mo_trap_197 : decode b_mo_trap 197 = .ok (.aload_n 0, 1) := by decide +kernel
theorem d_mo_trap_198 : decode b_mo_trap 198 = .ok (.getfield 109, 3) := by decide +kernel
theorem d_mo_trap_201 : decode b_mo_trap 201 = .ok (.iconst 4, 1) := by decide +kernel
theorem d_mo_trap_202 : decode b_mo_trap 202 = .ok (.iload_n 1, 1) := by decide +kernel
theorem d_mo_trap_203 : decode b_mo_trap 203 = .ok (.imul, 1) := by decide +kernel
theorem d_mo_trap_204 : decode b_mo_trap 204 = .ok (.iadd, 1) := by decide +kernel
theorem d_mo_trap_205 : decode b_mo_trap 205 = .ok (.putfield 109, 3) := by decide +kernel
theorem d_mo_trap_208 : decode b_mo_trap 208 = .ok (.return_, 1) := by decide +kernel
theorem d_mo_order_0 : decode b_mo_order 0 = .ok (.iload_n 0, 1) := by decide +kernel
theorem d_mo_order_1 : decode b_mo_order 1 = .ok (.ifCond .ne 8, 3) := by decide +kernel
theorem d_mo_order_4 : decode b_mo_order 4 = .ok (.bipush 11, 2) := by decide +kernel
theorem d_mo_order_6 : decode b_mo_order 6 = .ok (.goto 42, 3) := by decide +kernel
theorem d_mo_order_9 : decode b_mo_order 9 = .ok (.iload_n 0, 1) := by decide +kernel
theorem d_mo_order_10 : decode b_mo_order 10 = .ok (.iconst 1, 1) := by decide +kernel
theorem d_mo_order_11 : decode b_mo_order 11 = .ok (.if_icmp .ne 7, 3) := by decide +kernel
theorem d_mo_order_14 : decode b_mo_order 14 = .ok (.iconst 3, 1) := by decide +kernel
theorem d_mo_order_15 : decode b_mo_order 15 = .ok (.goto 33, 3) := by decide +kernel
theorem d_mo_order_18 : decode b_mo_order 18 = .ok (.iload_n 0, 1) := by decide +kernel
theorem d_mo_order_19 : decode b_mo_order 19 = .ok (.iconst 2, 1) := by decide +kernel
theorem d_mo_order_20 : decode b_mo_order 20 = .ok (.if_icmp .ne 8, 3) := by decide +kernel
theorem d_mo_order_23 : decode b_mo_order 23 = .ok (.bipush 7, 2) := by decide +kernel
theorem d_mo_order_25 : decode b_mo_order 25 = .ok (.goto 23, 3) := by decide +kernel
theorem d_mo_order_28 : decode b_mo_order 28 = .ok (.iload_n 0, 1) := by decide +kernel
theorem d_mo_order_29 : decode b_mo_order 29 = .ok (.iconst 3, 1) := by decide +kernel
theorem d_mo_order_30 : decode b_mo_order 30 = .ok (.if_icmp .ne 8, 3) := by decide +kernel
theorem d_mo_order_33 : decode b_mo_order 33 = .ok (.bipush 9, 2) := by decide +kernel
theorem d_mo_order_35 : decode b_mo_order 35 = .ok (.goto 13, 3) := by decide +kernel
theorem d_mo_order_38 : decode b_mo_order 38 = .ok (.iload_n 0, 1) := by decide +kernel
theorem d_mo_order_39 : decode b_mo_order 39 = .ok (.iconst 4, 1) := by decide +kernel
theorem d_mo_order_40 : decode b_mo_order 40 = .ok (.if_icmp .ne 7, 3) := by decide +kernel
theorem d_mo_order_43 : decode b_mo_order 43 = .ok (.iconst 1, 1) := by decide +kernel
theorem d_mo_order_44 : decode b_mo_order 44 = .ok (.goto 4, 3) := by decide +kernel
theorem d_mo_order_47 : decode b_mo_order 47 = .ok (.iconst 5, 1) := by decide +kernel
theorem d_mo_order_48 : decode b_mo_order 48 = .ok (.ireturn, 1) := by decide +kernel
theorem d_mo_dueNow_0 : decode b_mo_dueNow 0 = .ok (.aload_n 0, 1) := by decide +kernel
theorem d_mo_dueNow_1 : decode b_mo_dueNow 1 = .ok (.invokevirtual 143, 3) := by decide +kernel
theorem d_mo_dueNow_4 : decode b_mo_dueNow 4 = .ok (.aload_n 0, 1) := by decide +kernel
theorem d_mo_dueNow_5 : decode b_mo_dueNow 5 = .ok (.getfield 140, 3) := by decide +kernel
theorem d_mo_dueNow_8 : decode b_mo_dueNow 8 = .ok (.iand, 1) := by decide +kernel
theorem d_mo_dueNow_9 : decode b_mo_dueNow 9 = .ok (.istore_n 1, 1) := by decide +kernel
theorem d_mo_dueNow_10 : decode b_mo_dueNow 10 = .ok (.iconst 0, 1) := by decide +kernel
theorem d_mo_dueNow_11 : decode b_mo_dueNow 11 = .ok (.istore_n 2, 1) := by decide +kernel
theorem d_mo_dueNow_12 : decode b_mo_dueNow 12 = .ok (.iload_n 2, 1) := by decide +kernel
theorem d_mo_dueNow_13 : decode b_mo_dueNow 13 = .ok (.bipush 12, 2) := by decide +kernel
theorem d_mo_dueNow_15 : decode b_mo_dueNow 15 = .ok (.if_icmp .ge 127, 3) := by decide +kernel
theorem d_mo_dueNow_18 : decode b_mo_dueNow 18 = .ok (.iload_n 2, 1) := by decide +kernel
theorem d_mo_dueNow_19 : decode b_mo_dueNow 19 = .ok (.bipush 6, 2) := by decide +kernel
theorem d_mo_dueNow_21 : decode b_mo_dueNow 21 = .ok (.irem, 1) := by decide +kernel
theorem d_mo_dueNow_22 : decode b_mo_dueNow 22 = .ok (.invokestatic 158, 3) := by decide +kernel
theorem d_mo_dueNow_25 : decode b_mo_dueNow 25 = .ok (.istore_n 3, 1) := by decide +kernel
theorem d_mo_dueNow_26 : decode b_mo_dueNow 26 = .ok (.aload_n 0, 1) := by decide +kernel
theorem d_mo_dueNow_27 : decode b_mo_dueNow 27 = .ok (.getfield 137, 3) := by decide +kernel
theorem d_mo_dueNow_30 : decode b_mo_dueNow 30 = .ok (.iload_n 3, 1) := by decide +kernel
theorem d_mo_dueNow_31 : decode b_mo_dueNow 31 = .ok (.ishr, 1) := by decide +kernel
theorem d_mo_dueNow_32 : decode b_mo_dueNow 32 = .ok (.iconst 1, 1) := by decide +kernel
theorem d_mo_dueNow_33 : decode b_mo_dueNow 33 = .ok (.iand, 1) := by decide +kernel
theorem d_mo_dueNow_34 : decode b_mo_dueNow 34 = .ok (.iconst 1, 1) := by decide +kernel
theorem d_mo_dueNow_35 : decode b_mo_dueNow 35 = .ok (.if_icmp .ne 7, 3) := by decide +kernel
theorem d_mo_dueNow_38 : decode b_mo_dueNow 38 = .ok (.iconst 1, 1) := by decide +kernel
theorem d_mo_dueNow_39 : decode b_mo_dueNow 39 = .ok (.goto 4, 3) := by decide +kernel
theorem d_mo_dueNow_42 : decode b_mo_dueNow 42 = .ok (.iconst 0, 1) := by decide +kernel
theorem d_mo_dueNow_43 : decode b_mo_dueNow 43 = .ok (.istore 4, 2) := by decide +kernel
theorem d_mo_dueNow_45 : decode b_mo_dueNow 45 = .ok (.iload 4, 2) := by decide +kernel
theorem d_mo_dueNow_47 : decode b_mo_dueNow 47 = .ok (.ifCond .eq 34, 3) := by decide +kernel
theorem d_mo_dueNow_50 : decode b_mo_dueNow 50 = .ok (.aload_n 0, 1) := by decide +kernel
theorem d_mo_dueNow_51 : decode b_mo_dueNow 51 = .ok (.getfield 7, 3) := by decide +kernel
theorem d_mo_dueNow_54 : decode b_mo_dueNow 54 = .ok (.ifCond .eq 19, 3) := by decide +kernel
theorem d_mo_dueNow_57 : decode b_mo_dueNow 57 = .ok (.aload_n 0, 1) := by decide +kernel
theorem d_mo_dueNow_58 : decode b_mo_dueNow 58 = .ok (.getfield 7, 3) := by decide +kernel
theorem d_mo_dueNow_61 : decode b_mo_dueNow 61 = .ok (.iconst 1, 1) := by decide +kernel
theorem d_mo_dueNow_62 : decode b_mo_dueNow 62 = .ok (.if_icmp .ne 15, 3) := by decide +kernel
theorem d_mo_dueNow_65 : decode b_mo_dueNow 65 = .ok (.aload_n 0, 1) := by decide +kernel
theorem d_mo_dueNow_66 : decode b_mo_dueNow 66 = .ok (.iconst 1, 1) := by decide +kernel
theorem d_mo_dueNow_67 : decode b_mo_dueNow 67 = .ok (.invokevirtual 152, 3) := by decide +kernel
theorem d_mo_dueNow_70 : decode b_mo_dueNow 70 = .ok (.ifCond .eq 7, 3) := by decide +kernel
theorem d_mo_dueNow_73 : decode b_mo_dueNow 73 = .ok (.iconst 1, 1) := by decide +kernel
theorem d_mo_dueNow_74 : decode b_mo_dueNow 74 = .ok (.goto 28, 3) := by decide +kernel
theorem d_mo_dueNow_77 : decode b_mo_dueNow 77 = .ok (.iconst 0, 1) := by decide +kernel
theorem d_mo_dueNow_78 : decode b_mo_dueNow 78 = .ok (.goto 24, 3) := by decide +kernel
theorem d_mo_dueNow_81 : decode b_mo_dueNow 81 = .ok (.aload_n 0, 1) := by decide +kernel
theorem d_mo_dueNow_82 : decode b_mo_dueNow 82 = .ok (.getfield 7, 3) := by decide +kernel
theorem d_mo_dueNow_85 : decode b_mo_dueNow 85 = .ok (.iconst 3, 1) := by decide +kernel
theorem d_mo_dueNow_86 : decode b_mo_dueNow 86 = .ok (.if_icmp .lt 11, 3) := by decide +kernel
theorem d_mo_dueNow_89 : decode b_mo_dueNow 89 = .ok (.aload_n 0, 1) := by decide +kernel
theorem d_mo_dueNow_90 : decode b_mo_dueNow 90 = .ok (.iconst 3, 1) := by decide +kernel
theorem d_mo_dueNow_91 : decode b_mo_dueNow 91 = .ok (.invokevirtual 152, 3) := by decide +kernel
theorem d_mo_dueNow_94 : decode b_mo_dueNow 94 = .ok (.ifCond .eq 7, 3) := by decide +kernel
theorem d_mo_dueNow_97 : decode b_mo_dueNow 97 = .ok (.iconst 1, 1) := by decide +kernel
theorem d_mo_dueNow_98 : decode b_mo_dueNow 98 = .ok (.goto 4, 3) := by decide +kernel
theorem d_mo_dueNow_101 : decode b_mo_dueNow 101 = .ok (.iconst 0, 1) := by decide +kernel
theorem d_mo_dueNow_102 : decode b_mo_dueNow 102 = .ok (.istore 5, 2) := by decide +kernel
theorem d_mo_dueNow_104 : decode b_mo_dueNow 104 = .ok (.iload_n 1, 1) := by decide +kernel
theorem d_mo_dueNow_105 : decode b_mo_dueNow 105 = .ok (.iload_n 3, 1) := by decide +kernel
theorem d_mo_dueNow_106 : decode b_mo_dueNow 106 = .ok (.ishr, 1) := by decide +kernel
theorem d_mo_dueNow_107 : decode b_mo_dueNow 107 = .ok (.iconst 1, 1) := by decide +kernel
theorem d_mo_dueNow_108 : decode b_mo_dueNow 108 = .ok (.iand, 1) := by decide +kernel
theorem d_mo_dueNow_109 : decode b_mo_dueNow 109 = .ok (.iconst 1, 1) := by decide +kernel
theorem d_mo_dueNow_110 : decode b_mo_dueNow 110 = .ok (.if_icmp .ne 26, 3) := by decide +kernel
theorem d_mo_dueNow_113 : decode b_mo_dueNow 113 = .ok (.iload 4, 2) := by decide +kernel
theorem d_mo_dueNow_115 : decode b_mo_dueNow 115 = .ok (.iload_n 2, 1) := by decide +kernel
theorem d_mo_dueNow_116 : decode b_mo_dueNow 116 = .ok (.bipush 6, 2) := by decide +kernel
theorem d_mo_dueNow_118 : decode b_mo_dueNow 118 = .ok (.if_icmp .lt 7, 3) := by decide +kernel
theorem d_mo_dueNow_121 : decode b_mo_dueNow 121 = .ok (.iconst 1, 1) := by decide +kernel
theorem d_mo_dueNow_122 : decode b_mo_dueNow 122 = .ok (.goto 4, 3) := by decide +kernel
theorem d_mo_dueNow_125 : decode b_mo_dueNow 125 = .ok (.iconst 0, 1) := by decide +kernel
theorem d_mo_dueNow_126 : decode b_mo_dueNow 126 = .ok (.if_icmp .ne 10, 3) := by decide +kernel
theorem d_mo_dueNow_129 : decode b_mo_dueNow 129 = .ok (.iload 5, 2) := by decide +kernel
theorem d_mo_dueNow_131 : decode b_mo_dueNow 131 = .ok (.ifCond .eq 5, 3) := by decide +kernel
theorem d_mo_dueNow_134 : decode b_mo_dueNow 134 = .ok (.iload_n 3, 1) := by decide +kernel
theorem d_mo_dueNow_135 : decode b_mo_dueNow 135 = .ok (.ireturn, 1) := by decide +kernel
theorem d_mo_dueNow_136 : decode b_mo_dueNow 136 = .ok (.iinc 2 1, 3) := by decide +kernel
theorem d_mo_dueNow_139 : decode b_mo_dueNow 139 = .ok (.goto (-127), 3) := by decide +kernel
theorem d_mo_dueNow_142 : decode b_mo_dueNow 142 = .ok (.iconst (-1), 1) := by decide +kernel
theorem d_mo_dueNow_143 : decode b_mo_dueNow 143 = .ok (.ireturn, 1) := by decide +kernel
theorem d_mo_due_0 : decode b_mo_due 0 = .ok (.aload_n 0, 1) := by decide +kernel
theorem d_mo_due_1 : decode b_mo_due 1 = .ok (.iconst 0, 1) := by decide +kernel
theorem d_mo_due_2 : decode b_mo_due 2 = .ok (.putfield 54, 3) := by decide +kernel
theorem d_mo_due_5 : decode b_mo_due 5 = .ok (.aload_n 0, 1) := by decide +kernel
theorem d_mo_due_6 : decode b_mo_due 6 = .ok (.invokevirtual 161, 3) := by decide +kernel
theorem d_mo_due_9 : decode b_mo_due 9 = .ok (.ireturn, 1) := by decide +kernel
theorem d_mo_step_0 : decode b_mo_step 0 = .ok (.aload_n 0, 1) := by decide +kernel
theorem d_mo_step_1 : decode b_mo_step 1 = .ok (.iconst 0, 1) := by decide +kernel
theorem d_mo_step_2 : decode b_mo_step 2 = .ok (.putfield 54, 3) := by decide +kernel
theorem d_mo_step_5 : decode b_mo_step 5 = .ok (.aload_n 0, 1) := by decide +kernel
theorem d_mo_step_6 : decode b_mo_step 6 = .ok (.invokevirtual 161, 3) := by decide +kernel
theorem d_mo_step_9 : decode b_mo_step 9 = .ok (.istore_n 1, 1) := by decide +kernel
theorem d_mo_step_10 : decode b_mo_step 10 = .ok (.iload_n 1, 1) := by decide +kernel
theorem d_mo_step_11 : decode b_mo_step 11 = .ok (.ifCond .lt 12, 3) := by decide +kernel
theorem d_mo_step_14 : decode b_mo_step 14 = .ok (.aload_n 0, 1) := by decide +kernel
theorem d_mo_step_15 : decode b_mo_step 15 = .ok (.iload_n 1, 1) := by decide +kernel
theorem d_mo_step_16 : decode b_mo_step 16 = .ok (.iconst 1, 1) := by decide +kernel
theorem d_mo_step_17 : decode b_mo_step 17 = .ok (.invokevirtual 105, 3) := by decide +kernel
theorem d_mo_step_20 : decode b_mo_step 20 = .ok (.goto 13, 3) := by decide +kernel
theorem d_mo_step_23 : decode b_mo_step 23 = .ok (.aload_n 0, 1) := by decide +kernel
theorem d_mo_step_24 : decode b_mo_step 24 = .ok (.aload_n 0, 1) := by decide +kernel
theorem d_mo_step_25 : decode b_mo_step 25 = .ok (.getfield 109, 3) := by decide +kernel
theorem d_mo_step_28 : decode b_mo_step 28 = .ok (.iconst 4, 1) := by decide +kernel
theorem d_mo_step_29 : decode b_mo_step 29 = .ok (.iadd, 1) := by decide +kernel
theorem d_mo_step_30 : decode b_mo_step 30 = .ok (.putfield 109, 3) := by decide +kernel
theorem d_mo_step_33 : decode b_mo_step 33 = .ok (.iload_n 1, 1) := by decide +kernel
theorem d_mo_step_34 : decode b_mo_step 34 = .ok (.ireturn, 1) := by decide +kernel
theorem d_mo_raise_0 : decode b_mo_raise 0 = .ok (.iload_n 1, 1) := by decide +kernel
theorem d_mo_raise_1 : decode b_mo_raise 1 = .ok (.ifCond .lt 9, 3) := by decide +kernel
theorem d_mo_raise_4 : decode b_mo_raise 4 = .ok (.iload_n 1, 1) := by decide +kernel
theorem d_mo_raise_5 : decode b_mo_raise 5 = .ok (.bipush 9, 2) := by decide +kernel
theorem d_mo_raise_7 : decode b_mo_raise 7 = .ok (.if_icmp .le 27, 3) := by decide +kernel
theorem d_mo_raise_10 : decode b_mo_raise 10 = .ok (.iload_n 1, 1) := by decide +kernel
theorem d_mo_raise_11 : decode b_mo_raise 11 = .ok (.bipush 11, 2) := by decide +kernel
theorem d_mo_raise_13 : decode b_mo_raise 13 = .ok (.if_icmp .eq 21, 3) := by decide +kernel
theorem d_mo_raise_16 : decode b_mo_raise 16 = .ok (.iload_n 1, 1) := by decide +kernel
theorem d_mo_raise_17 : decode b_mo_raise 17 = .ok (.bipush 12, 2) := by decide +kernel
theorem d_mo_raise_19 : decode b_mo_raise 19 = .ok (.if_icmp .eq 15, 3) := by decide +kernel
theorem d_mo_raise_22 : decode b_mo_raise 22 = .ok (.iload_n 1, 1) := by decide +kernel
theorem d_mo_raise_23 : decode b_mo_raise 23 = .ok (.bipush 13, 2) := by decide +kernel
theorem d_mo_raise_25 : decode b_mo_raise 25 = .ok (.if_icmp .eq 9, 3) := by decide +kernel
theorem d_mo_raise_28 : decode b_mo_raise 28 = .ok (.iload_n 1, 1) := by decide +kernel
theorem d_mo_raise_29 : decode b_mo_raise 29 = .ok (.bipush 15, 2) := by decide +kernel
theorem d_mo_raise_31 : decode b_mo_raise 31 = .ok (.if_icmp .ne 7, 3) := by decide +kernel
theorem d_mo_raise_34 : decode b_mo_raise 34 = .ok (.iconst 1, 1) := by decide +kernel
theorem d_mo_raise_35 : decode b_mo_raise 35 = .ok (.goto 4, 3) := by decide +kernel
theorem d_mo_raise_38 : decode b_mo_raise 38 = .ok (.iconst 0, 1) := by decide +kernel
theorem d_mo_raise_39 : decode b_mo_raise 39 = .ok (.istore_n 2, 1) := by decide +kernel
theorem d_mo_raise_40 : decode b_mo_raise 40 = .ok (.aload_n 0, 1) := by decide +kernel
theorem d_mo_raise_41 : decode b_mo_raise 41 = .ok (.iload_n 2, 1) := by decide +kernel
theorem d_mo_raise_42 : decode b_mo_raise 42 = .ok (.ifCond .eq 7, 3) := by decide +kernel
theorem d_mo_raise_45 : decode b_mo_raise 45 = .ok (.iconst 0, 1) := by decide +kernel
theorem d_mo_raise_46 : decode b_mo_raise 46 = .ok (.goto 4, 3) := by decide +kernel
theorem d_mo_raise_49 : decode b_mo_raise 49 = .ok (.iconst 1, 1) := by decide +kernel
theorem d_mo_raise_50 : decode b_mo_raise 50 = .ok (.putfield 54, 3) := by decide +kernel
theorem d_mo_raise_53 : decode b_mo_raise 53 = .ok (.iload_n 2, 1) := by decide +kernel
theorem d_mo_raise_54 : decode b_mo_raise 54 = .ok (.ifCond .eq 9, 3) := by decide +kernel
theorem d_mo_raise_57 : decode b_mo_raise 57 = .ok (.aload_n 0, 1) := by decide +kernel
theorem d_mo_raise_58 : decode b_mo_raise 58 = .ok (.iload_n 1, 1) := by decide +kernel
theorem d_mo_raise_59 : decode b_mo_raise 59 = .ok (.iconst 0, 1) := by decide +kernel
theorem d_mo_raise_60 : decode b_mo_raise 60 = .ok (.invokevirtual 105, 3) := by decide +kernel
theorem d_mo_raise_63 : decode b_mo_raise 63 = .ok (.iload_n 2, 1) := by decide +kernel
theorem d_mo_raise_64 : decode b_mo_raise 64 = .ok (.ifCond .eq 10, 3) := by decide +kernel
theorem d_mo_raise_67 : decode b_mo_raise 67 = .ok (.aload_n 0, 1) := by decide +kernel
theorem d_mo_raise_68 : decode b_mo_raise 68 = .ok (.getfield 7, 3) := by decide +kernel
theorem d_mo_raise_71 : decode b_mo_raise 71 = .ok (.goto 4, 3) := by decide +kernel
theorem d_mo_raise_74 : decode b_mo_raise 74 = .ok (.iconst 0, 1) := by decide +kernel
theorem d_mo_raise_75 : decode b_mo_raise 75 = .ok (.ireturn, 1) := by decide +kernel
theorem d_mo_leave_0 : decode b_mo_leave 0 = .ok (.aload_n 0, 1) := by decide +kernel
theorem d_mo_leave_1 : decode b_mo_leave 1 = .ok (.iload_n 1, 1) := by decide +kernel
theorem d_mo_leave_2 : decode b_mo_leave 2 = .ok (.ifCond .eq 11, 3) := by decide +kernel
theorem d_mo_leave_5 : decode b_mo_leave 5 = .ok (.aload_n 0, 1) := by decide +kernel
theorem d_mo_leave_6 : decode b_mo_leave 6 = .ok (.getfield 7, 3) := by decide +kernel
theorem d_mo_leave_9 : decode b_mo_leave 9 = .ok (.iconst 3, 1) := by decide +kernel
theorem d_mo_leave_10 : decode b_mo_leave 10 = .ok (.if_icmp .lt 10, 3) := by decide +kernel
theorem d_mo_leave_13 : decode b_mo_leave 13 = .ok (.aload_n 0, 1) := by decide +kernel
theorem d_mo_leave_14 : decode b_mo_leave 14 = .ok (.getfield 7, 3) := by decide +kernel
theorem d_mo_leave_17 : decode b_mo_leave 17 = .ok (.ifCond .ne 7, 3) := by decide +kernel
theorem d_mo_leave_20 : decode b_mo_leave 20 = .ok (.iconst 1, 1) := by decide +kernel
theorem d_mo_leave_21 : decode b_mo_leave 21 = .ok (.goto 4, 3) := by decide +kernel
theorem d_mo_leave_24 : decode b_mo_leave 24 = .ok (.iconst 0, 1) := by decide +kernel
theorem d_mo_leave_25 : decode b_mo_leave 25 = .ok (.putfield 54, 3) := by decide +kernel
theorem d_mo_leave_28 : decode b_mo_leave 28 = .ok (.aload_n 0, 1) := by decide +kernel
theorem d_mo_leave_29 : decode b_mo_leave 29 = .ok (.getfield 54, 3) := by decide +kernel
theorem d_mo_leave_32 : decode b_mo_leave 32 = .ok (.ifCond .le 5, 3) := by decide +kernel
theorem d_mo_leave_35 : decode b_mo_leave 35 = .ok (.iconst 0, 1) := by decide +kernel
theorem d_mo_leave_36 : decode b_mo_leave 36 = .ok (.ireturn, 1) := by decide +kernel
theorem d_mo_leave_37 : decode b_mo_leave 37 = .ok (.iload_n 1, 1) := by decide +kernel
theorem d_mo_leave_38 : decode b_mo_leave 38 = .ok (.ifCond .eq 62, 3) := by decide +kernel
theorem d_mo_leave_41 : decode b_mo_leave 41 = .ok (.aload_n 0, 1) := by decide +kernel
theorem d_mo_leave_42 : decode b_mo_leave 42 = .ok (.aload_n 0, 1) := by decide +kernel
theorem d_mo_leave_43 : decode b_mo_leave 43 = .ok (.getfield 131, 3) := by decide +kernel
theorem d_mo_leave_46 : decode b_mo_leave 46 = .ok (.bipush 11, 2) := by decide +kernel
theorem d_mo_leave_48 : decode b_mo_leave 48 = .ok (.ishr, 1) := by decide +kernel
theorem d_mo_leave_49 : decode b_mo_leave 49 = .ok (.iconst 3, 1) := by decide +kernel
theorem d_mo_leave_50 : decode b_mo_leave 50 = .ok (.iand, 1) := by decide +kernel
theorem d_mo_leave_51 : decode b_mo_leave 51 = .ok (.putfield 7, 3) := by decide +kernel
theorem d_mo_leave_54 : decode b_mo_leave 54 = .ok (.aload_n 0, 1) := by decide +kernel
theorem d_mo_leave_55 : decode b_mo_leave 55 = .ok (.iconst 3, 1) := by decide +kernel
theorem d_mo_leave_56 : decode b_mo_leave 56 = .ok (.aload_n 0, 1) := by decide +kernel
theorem d_mo_leave_57 : decode b_mo_leave 57 = .ok (.bipush 7, 2) := by decide +kernel
theorem d_mo_leave_59 : decode b_mo_leave 59 = .ok (.invokevirtual 152, 3) := by decide +kernel
theorem d_mo_leave_62 : decode b_mo_leave 62 = .ok (.invokevirtual 155, 3) := by decide +kernel
theorem d_mo_leave_65 : decode b_mo_leave 65 = .ok (.aload_n 0, 1) := by decide +kernel
theorem d_mo_leave_66 : decode b_mo_leave 66 = .ok (.bipush 7, 2) := by decide +kernel
theorem d_mo_leave_68 : decode b_mo_leave 68 = .ok (.iconst 1, 1) := by decide +kernel
theorem d_mo_leave_69 : decode b_mo_leave 69 = .ok (.invokevirtual 155, 3) := by decide +kernel
theorem d_mo_leave_72 : decode b_mo_leave 72 = .ok (.aload_n 0, 1) := by decide +kernel
theorem d_mo_leave_73 : decode b_mo_leave 73 = .ok (.aload_n 0, 1) := by decide +kernel
theorem d_mo_leave_74 : decode b_mo_leave 74 = .ok (.getfield 131, 3) := by decide +kernel
theorem d_mo_leave_77 : decode b_mo_leave 77 = .ok (.iconst 0, 1) := by decide +kernel
theorem d_mo_leave_78 : decode b_mo_leave 78 = .ok (.sipush 6144, 3) := by decide +kernel
theorem d_mo_leave_81 : decode b_mo_leave 81 = .ok (.invokestatic 146, 3) := by decide +kernel
theorem d_mo_leave_84 : decode b_mo_leave 84 = .ok (.putfield 131, 3) := by decide +kernel
theorem d_mo_leave_87 : decode b_mo_leave 87 = .ok (.aload_n 0, 1) := by decide +kernel
theorem d_mo_leave_88 : decode b_mo_leave 88 = .ok (.aload_n 0, 1) := by decide +kernel
theorem d_mo_leave_89 : decode b_mo_leave 89 = .ok (.getfield 48, 3) := by decide +kernel
theorem d_mo_leave_92 : decode b_mo_leave 92 = .ok (.iconst 0, 1) := by decide +kernel
theorem d_mo_leave_93 : decode b_mo_leave 93 = .ok (.iaload, 1) := by decide +kernel
theorem d_mo_leave_94 : decode b_mo_leave 94 = .ok (.putfield 109, 3) := by decide +kernel
theorem d_mo_leave_97 : decode b_mo_leave 97 = .ok (.goto 54, 3) := by decide +kernel
theorem d_mo_leave_100 : decode b_mo_leave 100 = .ok (.aload_n 0, 1) := by decide +kernel
theorem d_mo_leave_101 : decode b_mo_leave 101 = .ok (.aload_n 0, 1) := by decide +kernel
theorem d_mo_leave_102 : decode b_mo_leave 102 = .ok (.bipush 8, 2) := by decide +kernel
theorem d_mo_leave_104 : decode b_mo_leave 104 = .ok (.invokevirtual 152, 3) := by decide +kernel
theorem d_mo_leave_107 : decode b_mo_leave 107 = .ok (.ifCond .eq 7, 3) := by decide +kernel
theorem d_mo_leave_110 : decode b_mo_leave 110 = .ok (.iconst 1, 1) := by decide +kernel
theorem d_mo_leave_111 : decode b_mo_leave 111 = .ok (.goto 4, 3) := by decide +kernel
theorem d_mo_leave_114 : decode b_mo_leave 114 = .ok (.iconst 0, 1) := by decide +kernel
theorem d_mo_leave_115 : decode b_mo_leave 115 = .ok (.putfield 7, 3) := by decide +kernel
theorem d_mo_leave_118 : decode b_mo_leave 118 = .ok (.aload_n 0, 1) := by decide +kernel
theorem d_mo_leave_119 : decode b_mo_leave 119 = .ok (.iconst 1, 1) := by decide +kernel
theorem d_mo_leave_120 : decode b_mo_leave 120 = .ok (.aload_n 0, 1) := by decide +kernel
theorem d_mo_leave_121 : decode b_mo_leave 121 = .ok (.iconst 5, 1) := by decide +kernel
theorem d_mo_leave_122 : decode b_mo_leave 122 = .ok (.invokevirtual 152, 3) := by decide +kernel
theorem d_mo_leave_125 : decode b_mo_leave 125 = .ok (.invokevirtual 155, 3) := by decide +kernel
theorem d_mo_leave_128 : decode b_mo_leave 128 = .ok (.aload_n 0, 1) := by decide +kernel
theorem d_mo_leave_129 : decode b_mo_leave 129 = .ok (.iconst 5, 1) := by decide +kernel
theorem d_mo_leave_130 : decode b_mo_leave 130 = .ok (.iconst 1, 1) := by decide +kernel
theorem d_mo_leave_131 : decode b_mo_leave 131 = .ok (.invokevirtual 155, 3) := by decide +kernel
theorem d_mo_leave_134 : decode b_mo_leave 134 = .ok (.aload_n 0, 1) := by decide +kernel
theorem d_mo_leave_135 : decode b_mo_leave 135 = .ok (.bipush 8, 2) := by decide +kernel
theorem d_mo_leave_137 : decode b_mo_leave 137 = .ok (.iconst 0, 1) := by decide +kernel
theorem d_mo_leave_138 : decode b_mo_leave 138 = .ok (.invokevirtual 155, 3) := by decide +kernel
theorem d_mo_leave_141 : decode b_mo_leave 141 = .ok (.aload_n 0, 1) := by decide +kernel
theorem d_mo_leave_142 : decode b_mo_leave 142 = .ok (.aload_n 0, 1) := by decide +kernel
theorem d_mo_leave_143 : decode b_mo_leave 143 = .ok (.getfield 48, 3) := by decide +kernel
theorem d_mo_leave_146 : decode b_mo_leave 146 = .ok (.iconst 1, 1) := by decide +kernel
theorem d_mo_leave_147 : decode b_mo_leave 147 = .ok (.iaload, 1) := by decide +kernel
theorem d_mo_leave_148 : decode b_mo_leave 148 = .ok (.putfield 109, 3) := by decide +kernel
theorem d_mo_leave_151 : decode b_mo_leave 151 = .ok (.aload_n 0, 1) := by decide +kernel
theorem d_mo_leave_152 : decode b_mo_leave 152 = .ok (.getfield 7, 3) := by decide +kernel
theorem d_mo_leave_155 : decode b_mo_leave 155 = .ok (.ireturn, 1) := by decide +kernel
theorem d_mo_privilege_0 : decode b_mo_privilege 0 = .ok (.aload_n 0, 1) := by decide +kernel
theorem d_mo_privilege_1 : decode b_mo_privilege 1 = .ok (.iconst 0, 1) := by decide +kernel
theorem d_mo_privilege_2 : decode b_mo_privilege 2 = .ok (.putfield 54, 3) := by decide +kernel
theorem d_mo_privilege_5 : decode b_mo_privilege 5 = .ok (.aload_n 0, 1) := by decide +kernel
theorem d_mo_privilege_6 : decode b_mo_privilege 6 = .ok (.getfield 7, 3) := by decide +kernel
theorem d_mo_privilege_9 : decode b_mo_privilege 9 = .ok (.ireturn, 1) := by decide +kernel
theorem d_mo_pc_0 : decode b_mo_pc 0 = .ok (.aload_n 0, 1) := by decide +kernel
theorem d_mo_pc_1 : decode b_mo_pc 1 = .ok (.iconst 0, 1) := by decide +kernel
theorem d_mo_pc_2 : decode b_mo_pc 2 = .ok (.putfield 54, 3) := by decide +kernel
theorem d_mo_pc_5 : decode b_mo_pc 5 = .ok (.aload_n 0, 1) := by decide +kernel
theorem d_mo_pc_6 : decode b_mo_pc 6 = .ok (.getfield 109, 3) := by decide +kernel
theorem d_mo_pc_9 : decode b_mo_pc 9 = .ok (.ireturn, 1) := by decide +kernel
theorem d_mo_source_0 : decode b_mo_source 0 = .ok (.aload_n 0, 1) := by decide +kernel
theorem d_mo_source_1 : decode b_mo_source 1 = .ok (.iload_n 1, 1) := by decide +kernel
theorem d_mo_source_2 : decode b_mo_source 2 = .ok (.iconst 1, 1) := by decide +kernel
theorem d_mo_source_3 : decode b_mo_source 3 = .ok (.if_icmp .lt 9, 3) := by decide +kernel
theorem d_mo_source_6 : decode b_mo_source 6 = .ok (.iload_n 1, 1) := by decide +kernel
theorem d_mo_source_7 : decode b_mo_source 7 = .ok (.bipush 15, 2) := by decide +kernel
theorem d_mo_source_9 : decode b_mo_source 9 = .ok (.if_icmp .le 7, 3) := by decide +kernel
theorem d_mo_source_12 : decode b_mo_source 12 = .ok (.iconst 1, 1) := by decide +kernel
theorem d_mo_source_13 : decode b_mo_source 13 = .ok (.goto 4, 3) := by decide +kernel
theorem d_mo_source_16 : decode b_mo_source 16 = .ok (.iconst 0, 1) := by decide +kernel
theorem d_mo_source_17 : decode b_mo_source 17 = .ok (.putfield 54, 3) := by decide +kernel
theorem d_mo_source_20 : decode b_mo_source 20 = .ok (.aload_n 0, 1) := by decide +kernel
theorem d_mo_source_21 : decode b_mo_source 21 = .ok (.getfield 54, 3) := by decide +kernel
theorem d_mo_source_24 : decode b_mo_source 24 = .ok (.ifCond .le 7, 3) := by decide +kernel
theorem d_mo_source_27 : decode b_mo_source 27 = .ok (.iconst 0, 1) := by decide +kernel
theorem d_mo_source_28 : decode b_mo_source 28 = .ok (.goto 18, 3) := by decide +kernel
theorem d_mo_source_31 : decode b_mo_source 31 = .ok (.aload_n 0, 1) := by decide +kernel
theorem d_mo_source_32 : decode b_mo_source 32 = .ok (.getfield 27, 3) := by decide +kernel
theorem d_mo_source_35 : decode b_mo_source 35 = .ok (.iload_n 1, 1) := by decide +kernel
theorem d_mo_source_36 : decode b_mo_source 36 = .ok (.iaload, 1) := by decide +kernel
theorem d_mo_source_37 : decode b_mo_source 37 = .ok (.iconst 4, 1) := by decide +kernel
theorem d_mo_source_38 : decode b_mo_source 38 = .ok (.aload_n 0, 1) := by decide +kernel
theorem d_mo_source_39 : decode b_mo_source 39 = .ok (.getfield 30, 3) := by decide +kernel
theorem d_mo_source_42 : decode b_mo_source 42 = .ok (.iload_n 1, 1) := by decide +kernel
theorem d_mo_source_43 : decode b_mo_source 43 = .ok (.iaload, 1) := by decide +kernel
theorem d_mo_source_44 : decode b_mo_source 44 = .ok (.imul, 1) := by decide +kernel
theorem d_mo_source_45 : decode b_mo_source 45 = .ok (.iadd, 1) := by decide +kernel
theorem d_mo_source_46 : decode b_mo_source 46 = .ok (.ireturn, 1) := by decide +kernel
theorem d_ct_init_0 : decode b_ct_init 0 = .ok (.aload_n 0, 1) := by decide +kernel
theorem d_ct_init_1 : decode b_ct_init 1 = .ok (.invokespecial 1, 3) := by decide +kernel
theorem d_ct_init_4 : decode b_ct_init 4 = .ok (.aload_n 0, 1) := by decide +kernel
theorem d_ct_init_5 : decode b_ct_init 5 = .ok (.aload_n 1, 1) := by decide +kernel
theorem d_ct_init_6 : decode b_ct_init 6 = .ok (.putfield 7, 3) := by decide +kernel
theorem d_ct_init_9 : decode b_ct_init 9 = .ok (.aload_n 0, 1) := by decide +kernel
theorem d_ct_init_10 : decode b_ct_init 10 = .ok (.iload_n 2, 1) := by decide +kernel
theorem d_ct_init_11 : decode b_ct_init 11 = .ok (.iconst 1, 1) := by decide +kernel
theorem d_ct_init_12 : decode b_ct_init 12 = .ok (.iadd, 1) := by decide +kernel
theorem d_ct_init_13 : decode b_ct_init 13 = .ok (.putfield 13, 3) := by decide +kernel
theorem d_ct_init_16 : decode b_ct_init 16 = .ok (.return_, 1) := by decide +kernel
theorem d_ct_claim_0 : decode b_ct_claim 0 = .ok (.aload_n 0, 1) := by decide +kernel
theorem d_ct_claim_1 : decode b_ct_claim 1 = .ok (.getfield 7, 3) := by decide +kernel
theorem d_ct_claim_4 : decode b_ct_claim 4 = .ok (.aload_n 0, 1) := by decide +kernel
theorem d_ct_claim_5 : decode b_ct_claim 5 = .ok (.getfield 17, 3) := by decide +kernel
theorem d_ct_claim_8 : decode b_ct_claim 8 = .ok (.iconst 0, 1) := by decide +kernel
theorem d_ct_claim_9 : decode b_ct_claim 9 = .ok (.invokevirtual 20, 3) := by decide +kernel
theorem d_ct_claim_12 : decode b_ct_claim 12 = .ok (.istore_n 1, 1) := by decide +kernel
theorem d_ct_claim_13 : decode b_ct_claim 13 = .ok (.iload_n 1, 1) := by decide +kernel
theorem d_ct_claim_14 : decode b_ct_claim 14 = .ok (.ifCond .eq 15, 3) := by decide +kernel
theorem d_ct_claim_17 : decode b_ct_claim 17 = .ok (.aload_n 0, 1) := by decide +kernel
theorem d_ct_claim_18 : decode b_ct_claim 18 = .ok (.getfield 7, 3) := by decide +kernel
theorem d_ct_claim_21 : decode b_ct_claim 21 = .ok (.iload_n 1, 1) := by decide +kernel
theorem d_ct_claim_22 : decode b_ct_claim 22 = .ok (.aload_n 0, 1) := by decide +kernel
theorem d_ct_claim_23 : decode b_ct_claim 23 = .ok (.getfield 13, 3) := by decide +kernel
theorem d_ct_claim_26 : decode b_ct_claim 26 = .ok (.invokevirtual 26, 3) := by decide +kernel
theorem d_ct_claim_29 : decode b_ct_claim 29 = .ok (.iload_n 1, 1) := by decide +kernel
theorem d_ct_claim_30 : decode b_ct_claim 30 = .ok (.ireturn, 1) := by decide +kernel
theorem d_ct_complete_0 : decode b_ct_complete 0 = .ok (.iload_n 1, 1) := by decide +kernel
theorem d_ct_complete_1 : decode b_ct_complete 1 = .ok (.iconst 1, 1) := by decide +kernel
theorem d_ct_complete_2 : decode b_ct_complete 2 = .ok (.if_icmp .lt 28, 3) := by decide +kernel
theorem d_ct_complete_5 : decode b_ct_complete 5 = .ok (.iload_n 1, 1) := by decide +kernel
theorem d_ct_complete_6 : decode b_ct_complete 6 = .ok (.bipush 15, 2) := by decide +kernel
theorem d_ct_complete_8 : decode b_ct_complete 8 = .ok (.if_icmp .gt 22, 3) := by decide +kernel
theorem d_ct_complete_11 : decode b_ct_complete 11 = .ok (.aload_n 0, 1) := by decide +kernel
theorem d_ct_complete_12 : decode b_ct_complete 12 = .ok (.getfield 17, 3) := by decide +kernel
theorem d_ct_complete_15 : decode b_ct_complete 15 = .ok (.iload_n 1, 1) := by decide +kernel
theorem d_ct_complete_16 : decode b_ct_complete 16 = .ok (.invokestatic 30, 3) := by decide +kernel
theorem d_ct_complete_19 : decode b_ct_complete 19 = .ok (.ifCond .eq 11, 3) := by decide +kernel
theorem d_ct_complete_22 : decode b_ct_complete 22 = .ok (.aload_n 0, 1) := by decide +kernel
theorem d_ct_complete_23 : decode b_ct_complete 23 = .ok (.getfield 7, 3) := by decide +kernel
theorem d_ct_complete_26 : decode b_ct_complete 26 = .ok (.iload_n 1, 1) := by decide +kernel
theorem d_ct_complete_27 : decode b_ct_complete 27 = .ok (.invokevirtual 36, 3) := by decide +kernel
theorem d_ct_complete_30 : decode b_ct_complete 30 = .ok (.return_, 1) := by decide +kernel
theorem d_ct_isCalling_0 : decode b_ct_isCalling 0 = .ok (.aload_n 0, 1) := by decide +kernel
theorem d_ct_isCalling_1 : decode b_ct_isCalling 1 = .ok (.getfield 7, 3) := by decide +kernel
theorem d_ct_isCalling_4 : decode b_ct_isCalling 4 = .ok (.aload_n 0, 1) := by decide +kernel
theorem d_ct_isCalling_5 : decode b_ct_isCalling 5 = .ok (.getfield 17, 3) := by decide +kernel
theorem d_ct_isCalling_8 : decode b_ct_isCalling 8 = .ok (.aload_n 0, 1) := by decide +kernel
theorem d_ct_isCalling_9 : decode b_ct_isCalling 9 = .ok (.getfield 40, 3) := by decide +kernel
theorem d_ct_isCalling_12 : decode b_ct_isCalling 12 = .ok (.invokevirtual 20, 3) := by decide +kernel
theorem d_ct_isCalling_15 : decode b_ct_isCalling 15 = .ok (.ifCond .eq 7, 3) := by decide +kernel
theorem d_ct_isCalling_18 : decode b_ct_isCalling 18 = .ok (.iconst 1, 1) := by decide +kernel
theorem d_ct_isCalling_19 : decode b_ct_isCalling 19 = .ok (.goto 4, 3) := by decide +kernel
theorem d_ct_isCalling_22 : decode b_ct_isCalling 22 = .ok (.iconst 0, 1) := by decide +kernel
theorem d_ct_isCalling_23 : decode b_ct_isCalling 23 = .ok (.ireturn, 1) := by decide +kernel
theorem d_dv_init_0 : decode b_dv_init 0 = .ok (.aload_n 0, 1) := by decide +kernel
theorem d_dv_init_1 : decode b_dv_init 1 = .ok (.invokespecial 1, 3) := by decide +kernel
theorem d_dv_init_4 : decode b_dv_init 4 = .ok (.aload_n 0, 1) := by decide +kernel
theorem d_dv_init_5 : decode b_dv_init 5 = .ok (.new 7, 3) := by decide +kernel
theorem d_dv_init_8 : decode b_dv_init 8 = .ok (.dup, 1) := by decide +kernel
theorem d_dv_init_9 : decode b_dv_init 9 = .ok (.iload_n 1, 1) := by decide +kernel
theorem d_dv_init_10 : decode b_dv_init 10 = .ok (.invokespecial 9, 3) := by decide +kernel
theorem d_dv_init_13 : decode b_dv_init 13 = .ok (.putfield 12, 3) := by decide +kernel
theorem d_dv_init_16 : decode b_dv_init 16 = .ok (.aload_n 0, 1) := by decide +kernel
theorem d_dv_init_17 : decode b_dv_init 17 = .ok (.new 18, 3) := by decide +kernel
theorem d_dv_init_20 : decode b_dv_init 20 = .ok (.dup, 1) := by decide +kernel
theorem d_dv_init_21 : decode b_dv_init 21 = .ok (.aload_n 0, 1) := by decide +kernel
theorem d_dv_init_22 : decode b_dv_init 22 = .ok (.getfield 12, 3) := by decide +kernel
theorem d_dv_init_25 : decode b_dv_init 25 = .ok (.iconst 0, 1) := by decide +kernel
theorem d_dv_init_26 : decode b_dv_init 26 = .ok (.invokespecial 20, 3) := by decide +kernel
theorem d_dv_init_29 : decode b_dv_init 29 = .ok (.putfield 23, 3) := by decide +kernel
theorem d_dv_init_32 : decode b_dv_init 32 = .ok (.aload_n 0, 1) := by decide +kernel
theorem d_dv_init_33 : decode b_dv_init 33 = .ok (.new 18, 3) := by decide +kernel
theorem d_dv_init_36 : decode b_dv_init 36 = .ok (.dup, 1) := by decide +kernel
theorem d_dv_init_37 : decode b_dv_init 37 = .ok (.aload_n 0, 1) := by decide +kernel
theorem d_dv_init_38 : decode b_dv_init 38 = .ok (.getfield 12, 3) := by decide +kernel
theorem d_dv_init_41 : decode b_dv_init 41 = .ok (.iconst 1, 1) := by decide +kernel
theorem d_dv_init_42 : decode b_dv_init 42 = .ok (.invokespecial 20, 3) := by decide +kernel
theorem d_dv_init_45 : decode b_dv_init 45 = .ok (.putfield 27, 3) := by decide +kernel
theorem d_dv_init_48 : decode b_dv_init 48 = .ok (.aload_n 0, 1) := by decide +kernel
theorem d_dv_init_49 : decode b_dv_init 49 = .ok (.new 30, 3) := by decide +kernel
theorem d_dv_init_52 : decode b_dv_init 52 = .ok (.dup, 1) := by decide +kernel
theorem d_dv_init_53 : decode b_dv_init 53 = .ok (.invokespecial 32, 3) := by decide +kernel
theorem d_dv_init_56 : decode b_dv_init 56 = .ok (.putfield 33, 3) := by decide +kernel
theorem d_dv_init_59 : decode b_dv_init 59 = .ok (.return_, 1) := by decide +kernel
theorem d_dv_faultAt_0 : decode b_dv_faultAt 0 = .ok (.iload_n 0, 1) := by decide +kernel
theorem d_dv_faultAt_1 : decode b_dv_faultAt 1 = .ok (.iconst 3, 1) := by decide +kernel
theorem d_dv_faultAt_2 : decode b_dv_faultAt 2 = .ok (.iand, 1) := by decide +kernel
theorem d_dv_faultAt_3 : decode b_dv_faultAt 3 = .ok (.ifCond .eq 5, 3) := by decide +kernel
theorem d_dv_faultAt_6 : decode b_dv_faultAt 6 = .ok (.iconst 1, 1) := by decide +kernel
theorem d_dv_faultAt_7 : decode b_dv_faultAt 7 = .ok (.ireturn, 1) := by decide +kernel
theorem d_dv_faultAt_8 : decode b_dv_faultAt 8 = .ok (.iload_n 0, 1) := by decide +kernel
theorem d_dv_faultAt_9 : decode b_dv_faultAt 9 = .ok (.invokestatic 37, 3) := by decide +kernel
theorem d_dv_faultAt_12 : decode b_dv_faultAt 12 = .ok (.ifCond .ne 5, 3) := by decide +kernel
theorem d_dv_faultAt_15 : decode b_dv_faultAt 15 = .ok (.iconst 2, 1) := by decide +kernel
theorem d_dv_faultAt_16 : decode b_dv_faultAt 16 = .ok (.ireturn, 1) := by decide +kernel
theorem d_dv_faultAt_17 : decode b_dv_faultAt 17 = .ok (.iload_n 1, 1) := by decide +kernel
theorem d_dv_faultAt_18 : decode b_dv_faultAt 18 = .ok (.ifCond .eq 13, 3) := by decide +kernel
theorem d_dv_faultAt_21 : decode b_dv_faultAt 21 = .ok (.iload_n 0, 1) := by decide +kernel
theorem d_dv_faultAt_22 : decode b_dv_faultAt 22 = .ok (.bipush 64, 2) := by decide +kernel
theorem d_dv_faultAt_24 : decode b_dv_faultAt 24 = .ok (.if_icmp .ne 7, 3) := by decide +kernel
theorem d_dv_faultAt_27 : decode b_dv_faultAt 27 = .ok (.iconst 3, 1) := by decide +kernel
theorem d_dv_faultAt_28 : decode b_dv_faultAt 28 = .ok (.goto 4, 3) := by decide +kernel
theorem d_dv_faultAt_31 : decode b_dv_faultAt 31 = .ok (.iconst 0, 1) := by decide +kernel
theorem d_dv_faultAt_32 : decode b_dv_faultAt 32 = .ok (.ireturn, 1) := by decide +kernel
theorem d_dv_isWord_0 : decode b_dv_isWord 0 = .ok (.iload_n 0, 1) := by decide +kernel
theorem d_dv_isWord_1 : decode b_dv_isWord 1 = .ok (.invokestatic 41, 3) := by decide +kernel
theorem d_dv_isWord_4 : decode b_dv_isWord 4 = .ok (.ifCond .ne 51, 3) := by decide +kernel
theorem d_dv_isWord_7 : decode b_dv_isWord 7 = .ok (.iload_n 0, 1) := by decide +kernel
theorem d_dv_isWord_8 : decode b_dv_isWord 8 = .ok (.bipush 64, 2) := by decide +kernel
theorem d_dv_isWord_10 : decode b_dv_isWord 10 = .ok (.if_icmp .eq 45, 3) := by decide +kernel
theorem d_dv_isWord_13 : decode b_dv_isWord 13 = .ok (.iload_n 0, 1) := by decide +kernel
theorem d_dv_isWord_14 : decode b_dv_isWord 14 = .ok (.sipush 128, 3) := by decide +kernel
theorem d_dv_isWord_17 : decode b_dv_isWord 17 = .ok (.if_icmp .lt 10, 3) := by decide +kernel
theorem d_dv_isWord_20 : decode b_dv_isWord 20 = .ok (.iload_n 0, 1) := by decide +kernel
theorem d_dv_isWord_21 : decode b_dv_isWord 21 = .ok (.sipush 136, 3) := by decide +kernel
theorem d_dv_isWord_24 : decode b_dv_isWord 24 = .ok (.if_icmp .le 31, 3) := by decide +kernel
theorem d_dv_isWord_27 : decode b_dv_isWord 27 = .ok (.iload_n 0, 1) := by decide +kernel
theorem d_dv_isWord_28 : decode b_dv_isWord 28 = .ok (.sipush 144, 3) := by decide +kernel
theorem d_dv_isWord_31 : decode b_dv_isWord 31 = .ok (.if_icmp .lt 10, 3) := by decide +kernel
theorem d_dv_isWord_34 : decode b_dv_isWord 34 = .ok (.iload_n 0, 1) := by decide +kernel
theorem d_dv_isWord_35 : decode b_dv_isWord 35 = .ok (.sipush 152, 3) := by decide +kernel
theorem d_dv_isWord_38 : decode b_dv_isWord 38 = .ok (.if_icmp .le 17, 3) := by decide +kernel
theorem d_dv_isWord_41 : decode b_dv_isWord 41 = .ok (.iload_n 0, 1) := by decide +kernel
theorem d_dv_isWord_42 : decode b_dv_isWord 42 = .ok (.sipush 192, 3) := by decide +kernel
theorem d_dv_isWord_45 : decode b_dv_isWord 45 = .ok (.if_icmp .lt 14, 3) := by decide +kernel
theorem d_dv_isWord_48 : decode b_dv_isWord 48 = .ok (.iload_n 0, 1) := by decide +kernel
theorem d_dv_isWord_49 : decode b_dv_isWord 49 = .ok (.sipush 208, 3) := by decide +kernel
theorem d_dv_isWord_52 : decode b_dv_isWord 52 = .ok (.if_icmp .gt 7, 3) := by decide +kernel
theorem d_dv_isWord_55 : decode b_dv_isWord 55 = .ok (.iconst 1, 1) := by decide +kernel
theorem d_dv_isWord_56 : decode b_dv_isWord 56 = .ok (.goto 4, 3) := by decide +kernel
theorem d_dv_isWord_59 : decode b_dv_isWord 59 = .ok (.iconst 0, 1) := by decide +kernel
theorem d_dv_isWord_60 : decode b_dv_isWord 60 = .ok (.ireturn, 1) := by decide +kernel
theorem d_dv_isPriority_0 : decode b_dv_isPriority 0 = .ok (.iload_n 0, 1) := by decide +kernel
theorem d_dv_isPriority_1 : decode b_dv_isPriority 1 = .ok (.iconst 4, 1) := by decide +kernel
theorem d_dv_isPriority_2 : decode b_dv_isPriority 2 = .ok (.if_icmp .lt 13, 3) := by decide +kernel
theorem d_dv_isPriority_5 : decode b_dv_isPriority 5 = .ok (.iload_n 0, 1) := by decide +kernel
theorem d_dv_isPriority_6 : decode b_dv_isPriority 6 = .ok (.bipush 60, 2) := by decide +kernel
theorem d_dv_isPriority_8 : decode b_dv_isPriority 8 = .ok (.if_icmp .gt 7, 3) := by decide +kernel
theorem d_dv_isPriority_11 : decode b_dv_isPriority 11 = .ok (.iconst 1, 1) := by decide +kernel
theorem d_dv_isPriority_12 : decode b_dv_isPriority 12 = .ok (.goto 4, 3) := by decide +kernel
theorem d_dv_isPriority_15 : decode b_dv_isPriority 15 = .ok (.iconst 0, 1) := by decide +kernel
theorem d_dv_isPriority_16 : decode b_dv_isPriority 16 = .ok (.ireturn, 1) := by decide +kernel
theorem d_dv_readWord_0 : decode b_dv_readWord 0 = .ok (.iload_n 1, 1) := by decide +kernel
theorem d_dv_readWord_1 : decode b_dv_readWord 1 = .ok (.invokestatic 41, 3) := by decide +kernel
theorem d_dv_readWord_4 : decode b_dv_readWord 4 = .ok (.ifCond .eq 15, 3) := by decide +kernel
theorem d_dv_readWord_7 : decode b_dv_readWord 7 = .ok (.aload_n 0, 1) := by decide +kernel
theorem d_dv_readWord_8 : decode b_dv_readWord 8 = .ok (.getfield 12, 3) := by decide +kernel
theorem d_dv_readWord_11 : decode b_dv_readWord 11 = .ok (.getfield 44, 3) := by decide +kernel
theorem d_dv_readWord_14 : decode b_dv_readWord 14 = .ok (.iload_n 1, 1) := by decide +kernel
theorem d_dv_readWord_15 : decode b_dv_readWord 15 = .ok (.iconst 2, 1) := by decide +kernel
theorem d_dv_readWord_16 : decode b_dv_readWord 16 = .ok (.ishr, 1) := by decide +kernel
theorem d_dv_readWord_17 : decode b_dv_readWord 17 = .ok (.iaload, 1) := by decide +kernel
theorem d_dv_readWord_18 : decode b_dv_readWord 18 = .ok (.ireturn, 1) := by decide +kernel
theorem d_dv_readWord_19 : decode b_dv_readWord 19 = .ok (.iload_n 1, 1) := by decide +kernel
theorem d_dv_readWord_20 : decode b_dv_readWord 20 = .ok (.lookupswitch 214 #[(64, 108), (128, 116), (132, 124), (136, 132), (144, 140), (148, 148), (152, 156), (192, 164), (196, 172), (200, 181), (204, 193), (208, 202)], 108) := by decide +kernel
theorem d_dv_readWord_128 : decode b_dv_readWord 128 = .ok (.aload_n 0, 1) := by decide +kernel
theorem d_dv_readWord_129 : decode b_dv_readWord 129 = .ok (.getfield 12, 3) := by decide +kernel
theorem d_dv_readWord_132 : decode b_dv_readWord 132 = .ok (.getfield 48, 3) := by decide +kernel
theorem d_dv_readWord_135 : decode b_dv_readWord 135 = .ok (.ireturn, 1) := by decide +kernel
theorem d_dv_readWord_136 : decode b_dv_readWord 136 = .ok (.aload_n 0, 1) := by decide +kernel
theorem d_dv_readWord_137 : decode b_dv_readWord 137 = .ok (.getfield 23, 3) := by decide +kernel
theorem d_dv_readWord_140 : decode b_dv_readWord 140 = .ok (.getfield 52, 3) := by decide +kernel
theorem d_dv_readWord_143 : decode b_dv_readWord 143 = .ok (.ireturn, 1) := by decide +kernel
theorem d_dv_readWord_144 : decode b_dv_readWord 144 = .ok (.aload_n 0, 1) := by decide +kernel
theorem d_dv_readWord_145 : decode b_dv_readWord 145 = .ok (.getfield 23, 3) := by decide +kernel
theorem d_dv_readWord_148 : decode b_dv_readWord 148 = .ok (.getfield 55, 3) := by decide +kernel
theorem d_dv_readWord_151 : decode b_dv_readWord 151 = .ok (.ireturn, 1) := by decide +kernel
theorem d_dv_readWord_152 : decode b_dv_readWord 152 = .ok (.aload_n 0, 1) := by decide +kernel
theorem d_dv_readWord_153 : decode b_dv_readWord 153 = .ok (.getfield 23, 3) := by decide +kernel
theorem d_dv_readWord_156 : decode b_dv_readWord 156 = .ok (.invokevirtual 58, 3) := by decide +kernel
theorem d_dv_readWord_159 : decode b_dv_readWord 159 = .ok (.ireturn, 1) := by decide +kernel
theorem d_dv_readWord_160 : decode b_dv_readWord 160 = .ok (.aload_n 0, 1) := by decide +kernel
theorem d_dv_readWord_161 : decode b_dv_readWord 161 = .ok (.getfield 27, 3) := by decide +kernel
theorem d_dv_readWord_164 : decode b_dv_readWord 164 = .ok (.getfield 52, 3) := by decide +kernel
theorem d_dv_readWord_167 : decode b_dv_readWord 167 = .ok (.ireturn, 1) := by decide +kernel
theorem d_dv_readWord_168 : decode b_dv_readWord 168 = .ok (.aload_n 0, 1) := by decide +kernel
theorem d_dv_readWord_169 : decode b_dv_readWord 169 = .ok (.getfield 27, 3) := by decide +kernel
theorem d_dv_readWord_172 : decode b_dv_readWord 172 = .ok (.getfield 55, 3) := by decide +kernel
theorem d_dv_readWord_175 : decode b_dv_readWord 175 = .ok (.ireturn, 1) := by decide +kernel
theorem d_dv_readWord_176 : decode b_dv_readWord 176 = .ok (.aload_n 0, 1) := by decide +kernel
theorem d_dv_readWord_177 : decode b_dv_readWord 177 = .ok (.getfield 27, 3) := by decide +kernel
theorem d_dv_readWord_180 : decode b_dv_readWord 180 = .ok (.invokevirtual 58, 3) := by decide +kernel
theorem d_dv_readWord_183 : decode b_dv_readWord 183 = .ok (.ireturn, 1) := by decide +kernel
theorem d_dv_readWord_184 : decode b_dv_readWord 184 = .ok (.aload_n 0, 1) := by decide +kernel
theorem d_dv_readWord_185 : decode b_dv_readWord 185 = .ok (.getfield 33, 3) := by decide +kernel
theorem d_dv_readWord_188 : decode b_dv_readWord 188 = .ok (.getfield 62, 3) := by decide +kernel
theorem d_dv_readWord_191 : decode b_dv_readWord 191 = .ok (.ireturn, 1) := by decide +kernel
theorem d_dv_readWord_192 : decode b_dv_readWord 192 = .ok (.aload_n 0, 1) := by decide +kernel
theorem d_dv_readWord_193 : decode b_dv_readWord 193 = .ok (.getfield 33, 3) := by decide +kernel
theorem d_dv_readWord_196 : decode b_dv_readWord 196 = .ok (.getfield 65, 3) := by decide +kernel
theorem d_dv_readWord_199 : decode b_dv_readWord 199 = .ok (.l2i, 1) := by decide +kernel
theorem d_dv_readWord_200 : decode b_dv_readWord 200 = .ok (.ireturn, 1) := by decide +kernel
theorem d_dv_readWord_201 : decode b_dv_readWord 201 = .ok (.aload_n 0, 1) := by decide +kernel
theorem d_dv_readWord_202 : decode b_dv_readWord 202 = .ok (.getfield 33, 3) := by decide +kernel
theorem d_dv_readWord_205 : decode b_dv_readWord 205 = .ok (.getfield 65, 3) := by decide +kernel
theorem d_dv_readWord_208 : decode b_dv_readWord 208 = .ok (.bipush 32, 2) := by decide +kernel
theorem d_dv_readWord_210 : decode b_dv_readWord 210 = .ok (.lushr, 1) := by decide +kernel
theorem d_dv_readWord_211 : decode b_dv_readWord 211 = .ok (.l2i, 1) := by decide +kernel
theorem d_dv_readWord_212 : decode b_dv_readWord 212 = .ok (.ireturn, 1) := by decide +kernel
theorem d_dv_readWord_213 : decode b_dv_readWord 213 = .ok (.aload_n 0, 1) := by decide +kernel
theorem d_dv_readWord_214 : decode b_dv_readWord 214 = .ok (.getfield 33, 3) := by decide +kernel
theorem d_dv_readWord_217 : decode b_dv_readWord 217 = .ok (.getfield 69, 3) := by decide +kernel
theorem d_dv_readWord_220 : decode b_dv_readWord 220 = .ok (.l2i, 1) := by decide +kernel
theorem d_dv_readWord_221 : decode b_dv_readWord 221 = .ok (.ireturn, 1) := by decide +kernel
theorem d_dv_readWord_222 : decode b_dv_readWord 222 = .ok (.aload_n 0, 1) := by decide +kernel
theorem d_dv_readWord_223 : decode b_dv_readWord 223 = .ok (.getfield 33, 3) := by decide +kernel
theorem d_dv_readWord_226 : decode b_dv_readWord 226 = .ok (.getfield 69, 3) := by decide +kernel
theorem d_dv_readWord_229 : decode b_dv_readWord 229 = .ok (.bipush 32, 2) := by decide +kernel
theorem d_dv_readWord_231 : decode b_dv_readWord 231 = .ok (.lushr, 1) := by decide +kernel
theorem d_dv_readWord_232 : decode b_dv_readWord 232 = .ok (.l2i, 1) := by decide +kernel
theorem d_dv_readWord_233 : decode b_dv_readWord 233 = .ok (.ireturn, 1) := by decide +kernel
theorem d_dv_readWord_234 : decode b_dv_readWord 234 = .ok (.iconst 0, 1) := by decide +kernel
theorem d_dv_readWord_235 : decode b_dv_readWord 235 = .ok (.ireturn, 1) := by decide +kernel
theorem d_dv_writeWord_0 : decode b_dv_writeWord 0 = .ok (.iload_n 1, 1) := by decide +kernel
theorem d_dv_writeWord_1 : decode b_dv_writeWord 1 = .ok (.invokestatic 41, 3) := by decide +kernel
theorem d_dv_writeWord_4 : decode b_dv_writeWord 4 = .ok (.ifCond .eq 19, 3) := by decide +kernel
theorem d_dv_writeWord_7 : decode b_dv_writeWord 7 = .ok (.aload_n 0, 1) := by decide +kernel
theorem d_dv_writeWord_8 : decode b_dv_writeWord 8 = .ok (.getfield 12, 3) := by decide +kernel
theorem d_dv_writeWord_11 : decode b_dv_writeWord 11 = .ok (.getfield 44, 3) := by decide +kernel
theorem d_dv_writeWord_14 : decode b_dv_writeWord 14 = .ok (.iload_n 1, 1) := by decide +kernel
theorem d_dv_writeWord_15 : decode b_dv_writeWord 15 = .ok (.iconst 2, 1) := by decide +kernel
theorem d_dv_writeWord_16 : decode b_dv_writeWord 16 = .ok (.ishr, 1) := by decide +kernel
theorem d_dv_writeWord_17 : decode b_dv_writeWord 17 = .ok (.iload_n 2, 1) := by decide +kernel
theorem d_dv_writeWord_18 : decode b_dv_writeWord 18 = .ok (.bipush 7, 2) := by decide +kernel
theorem d_dv_writeWord_20 : decode b_dv_writeWord 20 = .ok (.iand, 1) := by decide +kernel
theorem d_dv_writeWord_21 : decode b_dv_writeWord 21 = .ok (.iastore, 1) := by decide +kernel
theorem d_dv_writeWord_22 : decode b_dv_writeWord 22 = .ok (.return_, 1) := by decide +kernel
theorem d_dv_writeWord_23 : decode b_dv_writeWord 23 = .ok (.iload_n 1, 1) := by decide +kernel
theorem d_dv_writeWord_24 : decode b_dv_writeWord 24 = .ok (.lookupswitch 275 #[(128, 100), (132, 114), (136, 128), (144, 139), (148, 153), (152, 167), (192, 178), (196, 191), (200, 212), (204, 233), (208, 254)], 100) := by decide +kernel
theorem d_dv_writeWord_124 : decode b_dv_writeWord 124 = .ok (.aload_n 0, 1) := by decide +kernel
