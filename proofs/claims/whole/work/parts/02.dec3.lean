theorem d_dv_writeWord_125 : decode b_dv_writeWord 125 = .ok (.getfield 23, 3) := by decide +kernel
theorem d_dv_writeWord_128 : decode b_dv_writeWord 128 = .ok (.iload_n 2, 1) := by decide +kernel
theorem d_dv_writeWord_129 : decode b_dv_writeWord 129 = .ok (.ldc 72, 2) := by decide +kernel
theorem d_dv_writeWord_131 : decode b_dv_writeWord 131 = .ok (.iand, 1) := by decide +kernel
theorem d_dv_writeWord_132 : decode b_dv_writeWord 132 = .ok (.putfield 52, 3) := by decide +kernel
theorem d_dv_writeWord_135 : decode b_dv_writeWord 135 = .ok (.goto 164, 3) := by decide +kernel
theorem d_dv_writeWord_138 : decode b_dv_writeWord 138 = .ok (.aload_n 0, 1) := by decide +kernel
theorem d_dv_writeWord_139 : decode b_dv_writeWord 139 = .ok (.getfield 23, 3) := by decide +kernel
theorem d_dv_writeWord_142 : decode b_dv_writeWord 142 = .ok (.iload_n 2, 1) := by decide +kernel
theorem d_dv_writeWord_143 : decode b_dv_writeWord 143 = .ok (.bipush 7, 2) := by decide +kernel
theorem d_dv_writeWord_145 : decode b_dv_writeWord 145 = .ok (.iand, 1) := by decide +kernel
theorem d_dv_writeWord_146 : decode b_dv_writeWord 146 = .ok (.putfield 55, 3) := by decide +kernel
theorem d_dv_writeWord_149 : decode b_dv_writeWord 149 = .ok (.goto 150, 3) := by decide +kernel
theorem d_dv_writeWord_152 : decode b_dv_writeWord 152 = .ok (.aload_n 0, 1) := by decide +kernel
theorem d_dv_writeWord_153 : decode b_dv_writeWord 153 = .ok (.getfield 23, 3) := by decide +kernel
theorem d_dv_writeWord_156 : decode b_dv_writeWord 156 = .ok (.iload_n 2, 1) := by decide +kernel
theorem d_dv_writeWord_157 : decode b_dv_writeWord 157 = .ok (.invokevirtual 73, 3) := by decide +kernel
theorem d_dv_writeWord_160 : decode b_dv_writeWord 160 = .ok (.goto 139, 3) := by decide +kernel
theorem d_dv_writeWord_163 : decode b_dv_writeWord 163 = .ok (.aload_n 0, 1) := by decide +kernel
theorem d_dv_writeWord_164 : decode b_dv_writeWord 164 = .ok (.getfield 27, 3) := by decide +kernel
theorem d_dv_writeWord_167 : decode b_dv_writeWord 167 = .ok (.iload_n 2, 1) := by decide +kernel
theorem d_dv_writeWord_168 : decode b_dv_writeWord 168 = .ok (.ldc 72, 2) := by decide +kernel
theorem d_dv_writeWord_170 : decode b_dv_writeWord 170 = .ok (.iand, 1) := by decide +kernel
theorem d_dv_writeWord_171 : decode b_dv_writeWord 171 = .ok (.putfield 52, 3) := by decide +kernel
theorem d_dv_writeWord_174 : decode b_dv_writeWord 174 = .ok (.goto 125, 3) := by decide +kernel
theorem d_dv_writeWord_177 : decode b_dv_writeWord 177 = .ok (.aload_n 0, 1) := by decide +kernel
theorem d_dv_writeWord_178 : decode b_dv_writeWord 178 = .ok (.getfield 27, 3) := by decide +kernel
theorem d_dv_writeWord_181 : decode b_dv_writeWord 181 = .ok (.iload_n 2, 1) := by decide +kernel
theorem d_dv_writeWord_182 : decode b_dv_writeWord 182 = .ok (.bipush 7, 2) := by decide +kernel
theorem d_dv_writeWord_184 : decode b_dv_writeWord 184 = .ok (.iand, 1) := by decide +kernel
theorem d_dv_writeWord_185 : decode b_dv_writeWord 185 = .ok (.putfield 55, 3) := by decide +kernel
theorem d_dv_writeWord_188 : decode b_dv_writeWord 188 = .ok (.goto 111, 3) := by decide +kernel
theorem d_dv_writeWord_191 : decode b_dv_writeWord 191 = .ok (.aload_n 0, 1) := by decide +kernel
theorem d_dv_writeWord_192 : decode b_dv_writeWord 192 = .ok (.getfield 27, 3) := by decide +kernel
theorem d_dv_writeWord_195 : decode b_dv_writeWord 195 = .ok (.iload_n 2, 1) := by decide +kernel
theorem d_dv_writeWord_196 : decode b_dv_writeWord 196 = .ok (.invokevirtual 73, 3) := by decide +kernel
theorem d_dv_writeWord_199 : decode b_dv_writeWord 199 = .ok (.goto 100, 3) := by decide +kernel
theorem d_dv_writeWord_202 : decode b_dv_writeWord 202 = .ok (.aload_n 0, 1) := by decide +kernel
theorem d_dv_writeWord_203 : decode b_dv_writeWord 203 = .ok (.getfield 33, 3) := by decide +kernel
theorem d_dv_writeWord_206 : decode b_dv_writeWord 206 = .ok (.iload_n 2, 1) := by decide +kernel
theorem d_dv_writeWord_207 : decode b_dv_writeWord 207 = .ok (.iconst 1, 1) := by decide +kernel
theorem d_dv_writeWord_208 : decode b_dv_writeWord 208 = .ok (.iand, 1) := by decide +kernel
theorem d_dv_writeWord_209 : decode b_dv_writeWord 209 = .ok (.putfield 62, 3) := by decide +kernel
theorem d_dv_writeWord_212 : decode b_dv_writeWord 212 = .ok (.goto 87, 3) := by decide +kernel
theorem d_dv_writeWord_215 : decode b_dv_writeWord 215 = .ok (.aload_n 0, 1) := by decide +kernel
theorem d_dv_writeWord_216 : decode b_dv_writeWord 216 = .ok (.getfield 33, 3) := by decide +kernel
theorem d_dv_writeWord_219 : decode b_dv_writeWord 219 = .ok (.aload_n 0, 1) := by decide +kernel
theorem d_dv_writeWord_220 : decode b_dv_writeWord 220 = .ok (.getfield 33, 3) := by decide +kernel
theorem d_dv_writeWord_223 : decode b_dv_writeWord 223 = .ok (.getfield 65, 3) := by decide +kernel
theorem d_dv_writeWord_226 : decode b_dv_writeWord 226 = .ok (.iload_n 2, 1) := by decide +kernel
theorem d_dv_writeWord_227 : decode b_dv_writeWord 227 = .ok (.invokestatic 76, 3) := by decide +kernel
theorem d_dv_writeWord_230 : decode b_dv_writeWord 230 = .ok (.putfield 65, 3) := by decide +kernel
theorem d_dv_writeWord_233 : decode b_dv_writeWord 233 = .ok (.goto 66, 3) := by decide +kernel
theorem d_dv_writeWord_236 : decode b_dv_writeWord 236 = .ok (.aload_n 0, 1) := by decide +kernel
theorem d_dv_writeWord_237 : decode b_dv_writeWord 237 = .ok (.getfield 33, 3) := by decide +kernel
theorem d_dv_writeWord_240 : decode b_dv_writeWord 240 = .ok (.aload_n 0, 1) := by decide +kernel
theorem d_dv_writeWord_241 : decode b_dv_writeWord 241 = .ok (.getfield 33, 3) := by decide +kernel
theorem d_dv_writeWord_244 : decode b_dv_writeWord 244 = .ok (.getfield 65, 3) := by decide +kernel
theorem d_dv_writeWord_247 : decode b_dv_writeWord 247 = .ok (.iload_n 2, 1) := by decide +kernel
theorem d_dv_writeWord_248 : decode b_dv_writeWord 248 = .ok (.invokestatic 80, 3) := by decide +kernel
theorem d_dv_writeWord_251 : decode b_dv_writeWord 251 = .ok (.putfield 65, 3) := by decide +kernel
theorem d_dv_writeWord_254 : decode b_dv_writeWord 254 = .ok (.goto 45, 3) := by decide +kernel
theorem d_dv_writeWord_257 : decode b_dv_writeWord 257 = .ok (.aload_n 0, 1) := by decide +kernel
theorem d_dv_writeWord_258 : decode b_dv_writeWord 258 = .ok (.getfield 33, 3) := by decide +kernel
theorem d_dv_writeWord_261 : decode b_dv_writeWord 261 = .ok (.aload_n 0, 1) := by decide +kernel
theorem d_dv_writeWord_262 : decode b_dv_writeWord 262 = .ok (.getfield 33, 3) := by decide +kernel
theorem d_dv_writeWord_265 : decode b_dv_writeWord 265 = .ok (.getfield 69, 3) := by decide +kernel
theorem d_dv_writeWord_268 : decode b_dv_writeWord 268 = .ok (.iload_n 2, 1) := by decide +kernel
theorem d_dv_writeWord_269 : decode b_dv_writeWord 269 = .ok (.invokestatic 76, 3) := by decide +kernel
theorem d_dv_writeWord_272 : decode b_dv_writeWord 272 = .ok (.putfield 69, 3) := by decide +kernel
theorem d_dv_writeWord_275 : decode b_dv_writeWord 275 = .ok (.goto 24, 3) := by decide +kernel
theorem d_dv_writeWord_278 : decode b_dv_writeWord 278 = .ok (.aload_n 0, 1) := by decide +kernel
theorem d_dv_writeWord_279 : decode b_dv_writeWord 279 = .ok (.getfield 33, 3) := by decide +kernel
theorem d_dv_writeWord_282 : decode b_dv_writeWord 282 = .ok (.aload_n 0, 1) := by decide +kernel
theorem d_dv_writeWord_283 : decode b_dv_writeWord 283 = .ok (.getfield 33, 3) := by decide +kernel
theorem d_dv_writeWord_286 : decode b_dv_writeWord 286 = .ok (.getfield 69, 3) := by decide +kernel
theorem d_dv_writeWord_289 : decode b_dv_writeWord 289 = .ok (.iload_n 2, 1) := by decide +kernel
theorem d_dv_writeWord_290 : decode b_dv_writeWord 290 = .ok (.invokestatic 80, 3) := by decide +kernel
theorem d_dv_writeWord_293 : decode b_dv_writeWord 293 = .ok (.putfield 69, 3) := by decide +kernel
theorem d_dv_writeWord_296 : decode b_dv_writeWord 296 = .ok (.goto 3, 3) := by decide +kernel
theorem d_dv_writeWord_299 : decode b_dv_writeWord 299 = .ok (.return_, 1) := by decide +kernel
theorem d_dv_interrupts_0 : decode b_dv_interrupts 0 = .ok (.aload_n 0, 1) := by decide +kernel
theorem d_dv_interrupts_1 : decode b_dv_interrupts 1 = .ok (.getfield 33, 3) := by decide +kernel
theorem d_dv_interrupts_4 : decode b_dv_interrupts 4 = .ok (.getfield 62, 3) := by decide +kernel
theorem d_dv_interrupts_7 : decode b_dv_interrupts 7 = .ok (.iconst 3, 1) := by decide +kernel
theorem d_dv_interrupts_8 : decode b_dv_interrupts 8 = .ok (.ishl, 1) := by decide +kernel
theorem d_dv_interrupts_9 : decode b_dv_interrupts 9 = .ok (.istore_n 1, 1) := by decide +kernel
theorem d_dv_interrupts_10 : decode b_dv_interrupts 10 = .ok (.aload_n 0, 1) := by decide +kernel
theorem d_dv_interrupts_11 : decode b_dv_interrupts 11 = .ok (.getfield 33, 3) := by decide +kernel
theorem d_dv_interrupts_14 : decode b_dv_interrupts 14 = .ok (.invokevirtual 83, 3) := by decide +kernel
theorem d_dv_interrupts_17 : decode b_dv_interrupts 17 = .ok (.ifCond .eq 9, 3) := by decide +kernel
theorem d_dv_interrupts_20 : decode b_dv_interrupts 20 = .ok (.iload_n 1, 1) := by decide +kernel
theorem d_dv_interrupts_21 : decode b_dv_interrupts 21 = .ok (.sipush 128, 3) := by decide +kernel
theorem d_dv_interrupts_24 : decode b_dv_interrupts 24 = .ok (.ior, 1) := by decide +kernel
theorem d_dv_interrupts_25 : decode b_dv_interrupts 25 = .ok (.istore_n 1, 1) := by decide +kernel
theorem d_dv_interrupts_26 : decode b_dv_interrupts 26 = .ok (.aload_n 0, 1) := by decide +kernel
theorem d_dv_interrupts_27 : decode b_dv_interrupts 27 = .ok (.getfield 27, 3) := by decide +kernel
theorem d_dv_interrupts_30 : decode b_dv_interrupts 30 = .ok (.invokevirtual 87, 3) := by decide +kernel
theorem d_dv_interrupts_33 : decode b_dv_interrupts 33 = .ok (.ifCond .eq 9, 3) := by decide +kernel
theorem d_dv_interrupts_36 : decode b_dv_interrupts 36 = .ok (.iload_n 1, 1) := by decide +kernel
theorem d_dv_interrupts_37 : decode b_dv_interrupts 37 = .ok (.sipush 512, 3) := by decide +kernel
theorem d_dv_interrupts_40 : decode b_dv_interrupts 40 = .ok (.ior, 1) := by decide +kernel
theorem d_dv_interrupts_41 : decode b_dv_interrupts 41 = .ok (.istore_n 1, 1) := by decide +kernel
theorem d_dv_interrupts_42 : decode b_dv_interrupts 42 = .ok (.aload_n 0, 1) := by decide +kernel
theorem d_dv_interrupts_43 : decode b_dv_interrupts 43 = .ok (.getfield 23, 3) := by decide +kernel
theorem d_dv_interrupts_46 : decode b_dv_interrupts 46 = .ok (.invokevirtual 87, 3) := by decide +kernel
theorem d_dv_interrupts_49 : decode b_dv_interrupts 49 = .ok (.ifCond .eq 9, 3) := by decide +kernel
theorem d_dv_interrupts_52 : decode b_dv_interrupts 52 = .ok (.iload_n 1, 1) := by decide +kernel
theorem d_dv_interrupts_53 : decode b_dv_interrupts 53 = .ok (.sipush 2048, 3) := by decide +kernel
theorem d_dv_interrupts_56 : decode b_dv_interrupts 56 = .ok (.ior, 1) := by decide +kernel
theorem d_dv_interrupts_57 : decode b_dv_interrupts 57 = .ok (.istore_n 1, 1) := by decide +kernel
theorem d_dv_interrupts_58 : decode b_dv_interrupts 58 = .ok (.iload_n 1, 1) := by decide +kernel
theorem d_dv_interrupts_59 : decode b_dv_interrupts 59 = .ok (.ireturn, 1) := by decide +kernel
theorem d_hd_init_0 : decode b_hd_init 0 = .ok (.aload_n 0, 1) := by decide +kernel
theorem d_hd_init_1 : decode b_hd_init 1 = .ok (.invokespecial 1, 3) := by decide +kernel
theorem d_hd_init_4 : decode b_hd_init 4 = .ok (.return_, 1) := by decide +kernel
theorem d_hd_take_0 : decode b_hd_take 0 = .ok (.aload_n 0, 1) := by decide +kernel
theorem d_hd_take_1 : decode b_hd_take 1 = .ok (.iload_n 1, 1) := by decide +kernel
theorem d_hd_take_2 : decode b_hd_take 2 = .ok (.bipush (-4), 2) := by decide +kernel
theorem d_hd_take_4 : decode b_hd_take 4 = .ok (.iand, 1) := by decide +kernel
theorem d_hd_take_5 : decode b_hd_take 5 = .ok (.putfield 9, 3) := by decide +kernel
theorem d_hd_take_8 : decode b_hd_take 8 = .ok (.aload_n 0, 1) := by decide +kernel
theorem d_hd_take_9 : decode b_hd_take 9 = .ok (.iload_n 3, 1) := by decide +kernel
theorem d_hd_take_10 : decode b_hd_take 10 = .ok (.ifCond .eq 10, 3) := by decide +kernel
theorem d_hd_take_13 : decode b_hd_take 13 = .ok (.iload_n 2, 1) := by decide +kernel
theorem d_hd_take_14 : decode b_hd_take 14 = .ok (.ldc 13, 2) := by decide +kernel
theorem d_hd_take_16 : decode b_hd_take 16 = .ok (.ior, 1) := by decide +kernel
theorem d_hd_take_17 : decode b_hd_take 17 = .ok (.goto 4, 3) := by decide +kernel
theorem d_hd_take_20 : decode b_hd_take 20 = .ok (.iload_n 2, 1) := by decide +kernel
theorem d_hd_take_21 : decode b_hd_take 21 = .ok (.putfield 14, 3) := by decide +kernel
theorem d_hd_take_24 : decode b_hd_take 24 = .ok (.aload_n 0, 1) := by decide +kernel
theorem d_hd_take_25 : decode b_hd_take 25 = .ok (.getfield 17, 3) := by decide +kernel
theorem d_hd_take_28 : decode b_hd_take 28 = .ok (.bipush (-4), 2) := by decide +kernel
theorem d_hd_take_30 : decode b_hd_take 30 = .ok (.iand, 1) := by decide +kernel
theorem d_hd_take_31 : decode b_hd_take 31 = .ok (.istore 4, 2) := by decide +kernel
theorem d_hd_take_33 : decode b_hd_take 33 = .ok (.iload_n 3, 1) := by decide +kernel
theorem d_hd_take_34 : decode b_hd_take 34 = .ok (.ifCond .eq 21, 3) := by decide +kernel
theorem d_hd_take_37 : decode b_hd_take 37 = .ok (.aload_n 0, 1) := by decide +kernel
theorem d_hd_take_38 : decode b_hd_take 38 = .ok (.getfield 17, 3) := by decide +kernel
theorem d_hd_take_41 : decode b_hd_take 41 = .ok (.iconst 1, 1) := by decide +kernel
theorem d_hd_take_42 : decode b_hd_take 42 = .ok (.iand, 1) := by decide +kernel
theorem d_hd_take_43 : decode b_hd_take 43 = .ok (.ifCond .eq 12, 3) := by decide +kernel
theorem d_hd_take_46 : decode b_hd_take 46 = .ok (.iload 4, 2) := by decide +kernel
theorem d_hd_take_48 : decode b_hd_take 48 = .ok (.iconst 4, 1) := by decide +kernel
theorem d_hd_take_49 : decode b_hd_take 49 = .ok (.iload_n 2, 1) := by decide +kernel
theorem d_hd_take_50 : decode b_hd_take 50 = .ok (.imul, 1) := by decide +kernel
theorem d_hd_take_51 : decode b_hd_take 51 = .ok (.iadd, 1) := by decide +kernel
theorem d_hd_take_52 : decode b_hd_take 52 = .ok (.goto 5, 3) := by decide +kernel
theorem d_hd_take_55 : decode b_hd_take 55 = .ok (.iload 4, 2) := by decide +kernel
theorem d_hd_take_57 : decode b_hd_take 57 = .ok (.ireturn, 1) := by decide +kernel
theorem d_rg_init_0 : decode b_rg_init 0 = .ok (.aload_n 0, 1) := by decide +kernel
theorem d_rg_init_1 : decode b_rg_init 1 = .ok (.invokespecial 3, 3) := by decide +kernel
theorem d_rg_init_4 : decode b_rg_init 4 = .ok (.aload_n 0, 1) := by decide +kernel
theorem d_rg_init_5 : decode b_rg_init 5 = .ok (.new 9, 3) := by decide +kernel
theorem d_rg_init_8 : decode b_rg_init 8 = .ok (.dup, 1) := by decide +kernel
theorem d_rg_init_9 : decode b_rg_init 9 = .ok (.invokespecial 11, 3) := by decide +kernel
theorem d_rg_init_12 : decode b_rg_init 12 = .ok (.putfield 12, 3) := by decide +kernel
theorem d_rg_init_15 : decode b_rg_init 15 = .ok (.aload_n 0, 1) := by decide +kernel
theorem d_rg_init_16 : decode b_rg_init 16 = .ok (.new 18, 3) := by decide +kernel
theorem d_rg_init_19 : decode b_rg_init 19 = .ok (.dup, 1) := by decide +kernel
theorem d_rg_init_20 : decode b_rg_init 20 = .ok (.invokespecial 20, 3) := by decide +kernel
theorem d_rg_init_23 : decode b_rg_init 23 = .ok (.putfield 21, 3) := by decide +kernel
theorem d_rg_init_26 : decode b_rg_init 26 = .ok (.aload_n 0, 1) := by decide +kernel
theorem d_rg_init_27 : decode b_rg_init 27 = .ok (.new 18, 3) := by decide +kernel
theorem d_rg_init_30 : decode b_rg_init 30 = .ok (.dup, 1) := by decide +kernel
theorem d_rg_init_31 : decode b_rg_init 31 = .ok (.invokespecial 20, 3) := by decide +kernel
theorem d_rg_init_34 : decode b_rg_init 34 = .ok (.putfield 25, 3) := by decide +kernel
theorem d_rg_init_37 : decode b_rg_init 37 = .ok (.aload_n 0, 1) := by decide +kernel
theorem d_rg_init_38 : decode b_rg_init 38 = .ok (.aload_n 1, 1) := by decide +kernel
theorem d_rg_init_39 : decode b_rg_init 39 = .ok (.putfield 28, 3) := by decide +kernel
theorem d_rg_init_42 : decode b_rg_init 42 = .ok (.return_, 1) := by decide +kernel
theorem d_rg_isThere_0 : decode b_rg_isThere 0 = .ok (.iload_n 0, 1) := by decide +kernel
theorem d_rg_isThere_1 : decode b_rg_isThere 1 = .ok (.lookupswitch 125 #[(256, 123), (260, 123), (261, 123), (321, 123), (322, 123), (324, 123), (768, 123), (770, 123), (771, 123), (772, 123), (773, 123), (833, 123), (834, 123), (836, 123)], 123) := by decide +kernel
theorem d_rg_isThere_124 : decode b_rg_isThere 124 = .ok (.iconst 1, 1) := by decide +kernel
theorem d_rg_isThere_125 : decode b_rg_isThere 125 = .ok (.ireturn, 1) := by decide +kernel
theorem d_rg_isThere_126 : decode b_rg_isThere 126 = .ok (.iconst 0, 1) := by decide +kernel
theorem d_rg_isThere_127 : decode b_rg_isThere 127 = .ok (.ireturn, 1) := by decide +kernel
theorem d_rg_isOfMachine_0 : decode b_rg_isOfMachine 0 = .ok (.iload_n 0, 1) := by decide +kernel
theorem d_rg_isOfMachine_1 : decode b_rg_isOfMachine 1 = .ok (.sipush 768, 3) := by decide +kernel
theorem d_rg_isOfMachine_4 : decode b_rg_isOfMachine 4 = .ok (.if_icmp .lt 7, 3) := by decide +kernel
theorem d_rg_isOfMachine_7 : decode b_rg_isOfMachine 7 = .ok (.iconst 1, 1) := by decide +kernel
theorem d_rg_isOfMachine_8 : decode b_rg_isOfMachine 8 = .ok (.goto 4, 3) := by decide +kernel
theorem d_rg_isOfMachine_11 : decode b_rg_isOfMachine 11 = .ok (.iconst 0, 1) := by decide +kernel
theorem d_rg_isOfMachine_12 : decode b_rg_isOfMachine 12 = .ok (.ireturn, 1) := by decide +kernel
theorem d_rg_firstInterrupt_0 : decode b_rg_firstInterrupt 0 = .ok (.iconst 0, 1) := by decide +kernel
theorem d_rg_firstInterrupt_1 : decode b_rg_firstInterrupt 1 = .ok (.istore_n 1, 1) := by decide +kernel
theorem d_rg_firstInterrupt_2 : decode b_rg_firstInterrupt 2 = .ok (.iload_n 1, 1) := by decide +kernel
theorem d_rg_firstInterrupt_3 : decode b_rg_firstInterrupt 3 = .ok (.getstatic 32, 3) := by decide +kernel
theorem d_rg_firstInterrupt_6 : decode b_rg_firstInterrupt 6 = .ok (.arraylength, 1) := by decide +kernel
theorem d_rg_firstInterrupt_7 : decode b_rg_firstInterrupt 7 = .ok (.if_icmp .ge 27, 3) := by decide +kernel
theorem d_rg_firstInterrupt_10 : decode b_rg_firstInterrupt 10 = .ok (.iload_n 0, 1) := by decide +kernel
theorem d_rg_firstInterrupt_11 : decode b_rg_firstInterrupt 11 = .ok (.getstatic 32, 3) := by decide +kernel
theorem d_rg_firstInterrupt_14 : decode b_rg_firstInterrupt 14 = .ok (.iload_n 1, 1) := by decide +kernel
theorem d_rg_firstInterrupt_15 : decode b_rg_firstInterrupt 15 = .ok (.iaload, 1) := by decide +kernel
theorem d_rg_firstInterrupt_16 : decode b_rg_firstInterrupt 16 = .ok (.invokestatic 36, 3) := by decide +kernel
theorem d_rg_firstInterrupt_19 : decode b_rg_firstInterrupt 19 = .ok (.ifCond .eq 9, 3) := by decide +kernel
theorem d_rg_firstInterrupt_22 : decode b_rg_firstInterrupt 22 = .ok (.getstatic 32, 3) := by decide +kernel
theorem d_rg_firstInterrupt_25 : decode b_rg_firstInterrupt 25 = .ok (.iload_n 1, 1) := by decide +kernel
theorem d_rg_firstInterrupt_26 : decode b_rg_firstInterrupt 26 = .ok (.iaload, 1) := by decide +kernel
theorem d_rg_firstInterrupt_27 : decode b_rg_firstInterrupt 27 = .ok (.ireturn, 1) := by decide +kernel
theorem d_rg_firstInterrupt_28 : decode b_rg_firstInterrupt 28 = .ok (.iinc 1 1, 3) := by decide +kernel
theorem d_rg_firstInterrupt_31 : decode b_rg_firstInterrupt 31 = .ok (.goto (-29), 3) := by decide +kernel
theorem d_rg_firstInterrupt_34 : decode b_rg_firstInterrupt 34 = .ok (.iconst (-1), 1) := by decide +kernel
theorem d_rg_firstInterrupt_35 : decode b_rg_firstInterrupt 35 = .ok (.ireturn, 1) := by decide +kernel
theorem d_rg_isDelegated_0 : decode b_rg_isDelegated 0 = .ok (.iload_n 2, 1) := by decide +kernel
theorem d_rg_isDelegated_1 : decode b_rg_isDelegated 1 = .ok (.ifCond .eq 10, 3) := by decide +kernel
theorem d_rg_isDelegated_4 : decode b_rg_isDelegated 4 = .ok (.aload_n 0, 1) := by decide +kernel
theorem d_rg_isDelegated_5 : decode b_rg_isDelegated 5 = .ok (.getfield 40, 3) := by decide +kernel
theorem d_rg_isDelegated_8 : decode b_rg_isDelegated 8 = .ok (.goto 7, 3) := by decide +kernel
theorem d_rg_isDelegated_11 : decode b_rg_isDelegated 11 = .ok (.aload_n 0, 1) := by decide +kernel
theorem d_rg_isDelegated_12 : decode b_rg_isDelegated 12 = .ok (.getfield 44, 3) := by decide +kernel
theorem d_rg_isDelegated_15 : decode b_rg_isDelegated 15 = .ok (.iload_n 1, 1) := by decide +kernel
theorem d_rg_isDelegated_16 : decode b_rg_isDelegated 16 = .ok (.invokestatic 36, 3) := by decide +kernel
theorem d_rg_isDelegated_19 : decode b_rg_isDelegated 19 = .ok (.ireturn, 1) := by decide +kernel
theorem d_rg_pendingInterrupts_0 : decode b_rg_pendingInterrupts 0 = .ok (.aload_n 0, 1) := by decide +kernel
theorem d_rg_pendingInterrupts_1 : decode b_rg_pendingInterrupts 1 = .ok (.getfield 47, 3) := by decide +kernel
theorem d_rg_pendingInterrupts_4 : decode b_rg_pendingInterrupts 4 = .ok (.aload_n 0, 1) := by decide +kernel
theorem d_rg_pendingInterrupts_5 : decode b_rg_pendingInterrupts 5 = .ok (.getfield 28, 3) := by decide +kernel
theorem d_rg_pendingInterrupts_8 : decode b_rg_pendingInterrupts 8 = .ok (.invokevirtual 50, 3) := by decide +kernel
theorem d_rg_pendingInterrupts_11 : decode b_rg_pendingInterrupts 11 = .ok (.ior, 1) := by decide +kernel
theorem d_rg_pendingInterrupts_12 : decode b_rg_pendingInterrupts 12 = .ok (.ireturn, 1) := by decide +kernel
theorem d_rg_valueOf_0 : decode b_rg_valueOf 0 = .ok (.iload_n 1, 1) := by decide +kernel
theorem d_rg_valueOf_1 : decode b_rg_valueOf 1 = .ok (.lookupswitch 231 #[(256, 175), (260, 187), (261, 197), (321, 205), (322, 213), (324, 221), (768, 123), (770, 131), (771, 136), (772, 141), (773, 146), (833, 154), (834, 162), (836, 170)], 123) := by decide +kernel
theorem d_rg_valueOf_124 : decode b_rg_valueOf 124 = .ok (.aload_n 0, 1) := by decide +kernel
theorem d_rg_valueOf_125 : decode b_rg_valueOf 125 = .ok (.getfield 12, 3) := by decide +kernel
theorem d_rg_valueOf_128 : decode b_rg_valueOf 128 = .ok (.getfield 56, 3) := by decide +kernel
theorem d_rg_valueOf_131 : decode b_rg_valueOf 131 = .ok (.ireturn, 1) := by decide +kernel
theorem d_rg_valueOf_132 : decode b_rg_valueOf 132 = .ok (.aload_n 0, 1) := by decide +kernel
theorem d_rg_valueOf_133 : decode b_rg_valueOf 133 = .ok (.getfield 44, 3) := by decide +kernel
theorem d_rg_valueOf_136 : decode b_rg_valueOf 136 = .ok (.ireturn, 1) := by decide +kernel
theorem d_rg_valueOf_137 : decode b_rg_valueOf 137 = .ok (.aload_n 0, 1) := by decide +kernel
theorem d_rg_valueOf_138 : decode b_rg_valueOf 138 = .ok (.getfield 40, 3) := by decide +kernel
theorem d_rg_valueOf_141 : decode b_rg_valueOf 141 = .ok (.ireturn, 1) := by decide +kernel
theorem d_rg_valueOf_142 : decode b_rg_valueOf 142 = .ok (.aload_n 0, 1) := by decide +kernel
theorem d_rg_valueOf_143 : decode b_rg_valueOf 143 = .ok (.getfield 59, 3) := by decide +kernel
theorem d_rg_valueOf_146 : decode b_rg_valueOf 146 = .ok (.ireturn, 1) := by decide +kernel
theorem d_rg_valueOf_147 : decode b_rg_valueOf 147 = .ok (.aload_n 0, 1) := by decide +kernel
theorem d_rg_valueOf_148 : decode b_rg_valueOf 148 = .ok (.getfield 21, 3) := by decide +kernel
theorem d_rg_valueOf_151 : decode b_rg_valueOf 151 = .ok (.getfield 62, 3) := by decide +kernel
theorem d_rg_valueOf_154 : decode b_rg_valueOf 154 = .ok (.ireturn, 1) := by decide +kernel
theorem d_rg_valueOf_155 : decode b_rg_valueOf 155 = .ok (.aload_n 0, 1) := by decide +kernel
theorem d_rg_valueOf_156 : decode b_rg_valueOf 156 = .ok (.getfield 21, 3) := by decide +kernel
theorem d_rg_valueOf_159 : decode b_rg_valueOf 159 = .ok (.getfield 65, 3) := by decide +kernel
theorem d_rg_valueOf_162 : decode b_rg_valueOf 162 = .ok (.ireturn, 1) := by decide +kernel
theorem d_rg_valueOf_163 : decode b_rg_valueOf 163 = .ok (.aload_n 0, 1) := by decide +kernel
theorem d_rg_valueOf_164 : decode b_rg_valueOf 164 = .ok (.getfield 21, 3) := by decide +kernel
theorem d_rg_valueOf_167 : decode b_rg_valueOf 167 = .ok (.getfield 68, 3) := by decide +kernel
theorem d_rg_valueOf_170 : decode b_rg_valueOf 170 = .ok (.ireturn, 1) := by decide +kernel
theorem d_rg_valueOf_171 : decode b_rg_valueOf 171 = .ok (.aload_n 0, 1) := by decide +kernel
theorem d_rg_valueOf_172 : decode b_rg_valueOf 172 = .ok (.invokevirtual 71, 3) := by decide +kernel
theorem d_rg_valueOf_175 : decode b_rg_valueOf 175 = .ok (.ireturn, 1) := by decide +kernel
theorem d_rg_valueOf_176 : decode b_rg_valueOf 176 = .ok (.aload_n 0, 1) := by decide +kernel
theorem d_rg_valueOf_177 : decode b_rg_valueOf 177 = .ok (.getfield 12, 3) := by decide +kernel
theorem d_rg_valueOf_180 : decode b_rg_valueOf 180 = .ok (.getfield 56, 3) := by decide +kernel
theorem d_rg_valueOf_183 : decode b_rg_valueOf 183 = .ok (.sipush 290, 3) := by decide +kernel
theorem d_rg_valueOf_186 : decode b_rg_valueOf 186 = .ok (.iand, 1) := by decide +kernel
theorem d_rg_valueOf_187 : decode b_rg_valueOf 187 = .ok (.ireturn, 1) := by decide +kernel
theorem d_rg_valueOf_188 : decode b_rg_valueOf 188 = .ok (.aload_n 0, 1) := by decide +kernel
theorem d_rg_valueOf_189 : decode b_rg_valueOf 189 = .ok (.getfield 59, 3) := by decide +kernel
theorem d_rg_valueOf_192 : decode b_rg_valueOf 192 = .ok (.aload_n 0, 1) := by decide +kernel
theorem d_rg_valueOf_193 : decode b_rg_valueOf 193 = .ok (.getfield 40, 3) := by decide +kernel
theorem d_rg_valueOf_196 : decode b_rg_valueOf 196 = .ok (.iand, 1) := by decide +kernel
theorem d_rg_valueOf_197 : decode b_rg_valueOf 197 = .ok (.ireturn, 1) := by decide +kernel
theorem d_rg_valueOf_198 : decode b_rg_valueOf 198 = .ok (.aload_n 0, 1) := by decide +kernel
theorem d_rg_valueOf_199 : decode b_rg_valueOf 199 = .ok (.getfield 25, 3) := by decide +kernel
theorem d_rg_valueOf_202 : decode b_rg_valueOf 202 = .ok (.getfield 62, 3) := by decide +kernel
theorem d_rg_valueOf_205 : decode b_rg_valueOf 205 = .ok (.ireturn, 1) := by decide +kernel
theorem d_rg_valueOf_206 : decode b_rg_valueOf 206 = .ok (.aload_n 0, 1) := by decide +kernel
theorem d_rg_valueOf_207 : decode b_rg_valueOf 207 = .ok (.getfield 25, 3) := by decide +kernel
theorem d_rg_valueOf_210 : decode b_rg_valueOf 210 = .ok (.getfield 65, 3) := by decide +kernel
theorem d_rg_valueOf_213 : decode b_rg_valueOf 213 = .ok (.ireturn, 1) := by decide +kernel
theorem d_rg_valueOf_214 : decode b_rg_valueOf 214 = .ok (.aload_n 0, 1) := by decide +kernel
theorem d_rg_valueOf_215 : decode b_rg_valueOf 215 = .ok (.getfield 25, 3) := by decide +kernel
theorem d_rg_valueOf_218 : decode b_rg_valueOf 218 = .ok (.getfield 68, 3) := by decide +kernel
theorem d_rg_valueOf_221 : decode b_rg_valueOf 221 = .ok (.ireturn, 1) := by decide +kernel
theorem d_rg_valueOf_222 : decode b_rg_valueOf 222 = .ok (.aload_n 0, 1) := by decide +kernel
theorem d_rg_valueOf_223 : decode b_rg_valueOf 223 = .ok (.invokevirtual 71, 3) := by decide +kernel
theorem d_rg_valueOf_226 : decode b_rg_valueOf 226 = .ok (.aload_n 0, 1) := by decide +kernel
theorem d_rg_valueOf_227 : decode b_rg_valueOf 227 = .ok (.getfield 40, 3) := by decide +kernel
theorem d_rg_valueOf_230 : decode b_rg_valueOf 230 = .ok (.iand, 1) := by decide +kernel
theorem d_rg_valueOf_231 : decode b_rg_valueOf 231 = .ok (.ireturn, 1) := by decide +kernel
theorem d_rg_valueOf_232 : decode b_rg_valueOf 232 = .ok (.iconst 0, 1) := by decide +kernel
theorem d_rg_valueOf_233 : decode b_rg_valueOf 233 = .ok (.ireturn, 1) := by decide +kernel
theorem d_rg_change_0 : decode b_rg_change 0 = .ok (.iload_n 1, 1) := by decide +kernel
theorem d_rg_change_1 : decode b_rg_change 1 = .ok (.invokestatic 74, 3) := by decide +kernel
theorem d_rg_change_4 : decode b_rg_change 4 = .ok (.ifCond .eq 12, 3) := by decide +kernel
theorem d_rg_change_7 : decode b_rg_change 7 = .ok (.aload_n 0, 1) := by decide +kernel
theorem d_rg_change_8 : decode b_rg_change 8 = .ok (.iload_n 1, 1) := by decide +kernel
theorem d_rg_change_9 : decode b_rg_change 9 = .ok (.iload_n 2, 1) := by decide +kernel
theorem d_rg_change_10 : decode b_rg_change 10 = .ok (.invokevirtual 78, 3) := by decide +kernel
theorem d_rg_change_13 : decode b_rg_change 13 = .ok (.goto 9, 3) := by decide +kernel
theorem d_rg_change_16 : decode b_rg_change 16 = .ok (.aload_n 0, 1) := by decide +kernel
theorem d_rg_change_17 : decode b_rg_change 17 = .ok (.iload_n 1, 1) := by decide +kernel
theorem d_rg_change_18 : decode b_rg_change 18 = .ok (.iload_n 2, 1) := by decide +kernel
theorem d_rg_change_19 : decode b_rg_change 19 = .ok (.invokevirtual 82, 3) := by decide +kernel
theorem d_rg_change_22 : decode b_rg_change 22 = .ok (.return_, 1) := by decide +kernel
theorem d_rg_changeOfMachine_0 : decode b_rg_changeOfMachine 0 = .ok (.iload_n 1, 1) := by decide +kernel
theorem d_rg_changeOfMachine_1 : decode b_rg_changeOfMachine 1 = .ok (.lookupswitch 172 #[(768, 75), (770, 86), (771, 97), (772, 109), (773, 121), (833, 135), (834, 149), (836, 160)], 75) := by decide +kernel
theorem d_rg_changeOfMachine_76 : decode b_rg_changeOfMachine 76 = .ok (.aload_n 0, 1) := by decide +kernel
theorem d_rg_changeOfMachine_77 : decode b_rg_changeOfMachine 77 = .ok (.getfield 12, 3) := by decide +kernel
theorem d_rg_changeOfMachine_80 : decode b_rg_changeOfMachine 80 = .ok (.iload_n 2, 1) := by decide +kernel
theorem d_rg_changeOfMachine_81 : decode b_rg_changeOfMachine 81 = .ok (.invokevirtual 85, 3) := by decide +kernel
theorem d_rg_changeOfMachine_84 : decode b_rg_changeOfMachine 84 = .ok (.goto 89, 3) := by decide +kernel
theorem d_rg_changeOfMachine_87 : decode b_rg_changeOfMachine 87 = .ok (.aload_n 0, 1) := by decide +kernel
theorem d_rg_changeOfMachine_88 : decode b_rg_changeOfMachine 88 = .ok (.iload_n 2, 1) := by decide +kernel
theorem d_rg_changeOfMachine_89 : decode b_rg_changeOfMachine 89 = .ok (.ldc 89, 2) := by decide +kernel
theorem d_rg_changeOfMachine_91 : decode b_rg_changeOfMachine 91 = .ok (.iand, 1) := by decide +kernel
theorem d_rg_changeOfMachine_92 : decode b_rg_changeOfMachine 92 = .ok (.putfield 44, 3) := by decide +kernel
theorem d_rg_changeOfMachine_95 : decode b_rg_changeOfMachine 95 = .ok (.goto 78, 3) := by decide +kernel
theorem d_rg_changeOfMachine_98 : decode b_rg_changeOfMachine 98 = .ok (.aload_n 0, 1) := by decide +kernel
theorem d_rg_changeOfMachine_99 : decode b_rg_changeOfMachine 99 = .ok (.iload_n 2, 1) := by decide +kernel
theorem d_rg_changeOfMachine_100 : decode b_rg_changeOfMachine 100 = .ok (.sipush 546, 3) := by decide +kernel
theorem d_rg_changeOfMachine_103 : decode b_rg_changeOfMachine 103 = .ok (.iand, 1) := by decide +kernel
theorem d_rg_changeOfMachine_104 : decode b_rg_changeOfMachine 104 = .ok (.putfield 40, 3) := by decide +kernel
theorem d_rg_changeOfMachine_107 : decode b_rg_changeOfMachine 107 = .ok (.goto 66, 3) := by decide +kernel
theorem d_rg_changeOfMachine_110 : decode b_rg_changeOfMachine 110 = .ok (.aload_n 0, 1) := by decide +kernel
theorem d_rg_changeOfMachine_111 : decode b_rg_changeOfMachine 111 = .ok (.iload_n 2, 1) := by decide +kernel
theorem d_rg_changeOfMachine_112 : decode b_rg_changeOfMachine 112 = .ok (.sipush 2730, 3) := by decide +kernel
theorem d_rg_changeOfMachine_115 : decode b_rg_changeOfMachine 115 = .ok (.iand, 1) := by decide +kernel
theorem d_rg_changeOfMachine_116 : decode b_rg_changeOfMachine 116 = .ok (.putfield 59, 3) := by decide +kernel
theorem d_rg_changeOfMachine_119 : decode b_rg_changeOfMachine 119 = .ok (.goto 54, 3) := by decide +kernel
theorem d_rg_changeOfMachine_122 : decode b_rg_changeOfMachine 122 = .ok (.aload_n 0, 1) := by decide +kernel
theorem d_rg_changeOfMachine_123 : decode b_rg_changeOfMachine 123 = .ok (.getfield 21, 3) := by decide +kernel
theorem d_rg_changeOfMachine_126 : decode b_rg_changeOfMachine 126 = .ok (.iload_n 2, 1) := by decide +kernel
theorem d_rg_changeOfMachine_127 : decode b_rg_changeOfMachine 127 = .ok (.bipush (-3), 2) := by decide +kernel
theorem d_rg_changeOfMachine_129 : decode b_rg_changeOfMachine 129 = .ok (.iand, 1) := by decide +kernel
theorem d_rg_changeOfMachine_130 : decode b_rg_changeOfMachine 130 = .ok (.putfield 62, 3) := by decide +kernel
theorem d_rg_changeOfMachine_133 : decode b_rg_changeOfMachine 133 = .ok (.goto 40, 3) := by decide +kernel
theorem d_rg_changeOfMachine_136 : decode b_rg_changeOfMachine 136 = .ok (.aload_n 0, 1) := by decide +kernel
theorem d_rg_changeOfMachine_137 : decode b_rg_changeOfMachine 137 = .ok (.getfield 21, 3) := by decide +kernel
theorem d_rg_changeOfMachine_140 : decode b_rg_changeOfMachine 140 = .ok (.iload_n 2, 1) := by decide +kernel
theorem d_rg_changeOfMachine_141 : decode b_rg_changeOfMachine 141 = .ok (.bipush (-4), 2) := by decide +kernel
theorem d_rg_changeOfMachine_143 : decode b_rg_changeOfMachine 143 = .ok (.iand, 1) := by decide +kernel
theorem d_rg_changeOfMachine_144 : decode b_rg_changeOfMachine 144 = .ok (.putfield 65, 3) := by decide +kernel
theorem d_rg_changeOfMachine_147 : decode b_rg_changeOfMachine 147 = .ok (.goto 26, 3) := by decide +kernel
theorem d_rg_changeOfMachine_150 : decode b_rg_changeOfMachine 150 = .ok (.aload_n 0, 1) := by decide +kernel
theorem d_rg_changeOfMachine_151 : decode b_rg_changeOfMachine 151 = .ok (.getfield 21, 3) := by decide +kernel
theorem d_rg_changeOfMachine_154 : decode b_rg_changeOfMachine 154 = .ok (.iload_n 2, 1) := by decide +kernel
theorem d_rg_changeOfMachine_155 : decode b_rg_changeOfMachine 155 = .ok (.putfield 68, 3) := by decide +kernel
theorem d_rg_changeOfMachine_158 : decode b_rg_changeOfMachine 158 = .ok (.goto 15, 3) := by decide +kernel
theorem d_rg_changeOfMachine_161 : decode b_rg_changeOfMachine 161 = .ok (.aload_n 0, 1) := by decide +kernel
theorem d_rg_changeOfMachine_162 : decode b_rg_changeOfMachine 162 = .ok (.iload_n 2, 1) := by decide +kernel
theorem d_rg_changeOfMachine_163 : decode b_rg_changeOfMachine 163 = .ok (.sipush 546, 3) := by decide +kernel
theorem d_rg_changeOfMachine_166 : decode b_rg_changeOfMachine 166 = .ok (.iand, 1) := by decide +kernel
theorem d_rg_changeOfMachine_167 : decode b_rg_changeOfMachine 167 = .ok (.putfield 47, 3) := by decide +kernel
theorem d_rg_changeOfMachine_170 : decode b_rg_changeOfMachine 170 = .ok (.goto 3, 3) := by decide +kernel
theorem d_rg_changeOfMachine_173 : decode b_rg_changeOfMachine 173 = .ok (.return_, 1) := by decide +kernel
theorem d_rg_changeOfSupervisor_0 : decode b_rg_changeOfSupervisor 0 = .ok (.iload_n 1, 1) := by decide +kernel
theorem d_rg_changeOfSupervisor_1 : decode b_rg_changeOfSupervisor 1 = .ok (.lookupswitch 149 #[(256, 59), (260, 70), (261, 89), (321, 103), (322, 117), (324, 128)], 59) := by decide +kernel
theorem d_rg_changeOfSupervisor_60 : decode b_rg_changeOfSupervisor 60 = .ok (.aload_n 0, 1) := by decide +kernel
theorem d_rg_changeOfSupervisor_61 : decode b_rg_changeOfSupervisor 61 = .ok (.getfield 12, 3) := by decide +kernel
theorem d_rg_changeOfSupervisor_64 : decode b_rg_changeOfSupervisor 64 = .ok (.iload_n 2, 1) := by decide +kernel
theorem d_rg_changeOfSupervisor_65 : decode b_rg_changeOfSupervisor 65 = .ok (.invokevirtual 90, 3) := by decide +kernel
theorem d_rg_changeOfSupervisor_68 : decode b_rg_changeOfSupervisor 68 = .ok (.goto 82, 3) := by decide +kernel
theorem d_rg_changeOfSupervisor_71 : decode b_rg_changeOfSupervisor 71 = .ok (.aload_n 0, 1) := by decide +kernel
theorem d_rg_changeOfSupervisor_72 : decode b_rg_changeOfSupervisor 72 = .ok (.aload_n 0, 1) := by decide +kernel
theorem d_rg_changeOfSupervisor_73 : decode b_rg_changeOfSupervisor 73 = .ok (.getfield 59, 3) := by decide +kernel
theorem d_rg_changeOfSupervisor_76 : decode b_rg_changeOfSupervisor 76 = .ok (.iload_n 2, 1) := by decide +kernel
theorem d_rg_changeOfSupervisor_77 : decode b_rg_changeOfSupervisor 77 = .ok (.aload_n 0, 1) := by decide +kernel
theorem d_rg_changeOfSupervisor_78 : decode b_rg_changeOfSupervisor 78 = .ok (.getfield 40, 3) := by decide +kernel
theorem d_rg_changeOfSupervisor_81 : decode b_rg_changeOfSupervisor 81 = .ok (.invokestatic 93, 3) := by decide +kernel
theorem d_rg_changeOfSupervisor_84 : decode b_rg_changeOfSupervisor 84 = .ok (.putfield 59, 3) := by decide +kernel
theorem d_rg_changeOfSupervisor_87 : decode b_rg_changeOfSupervisor 87 = .ok (.goto 63, 3) := by decide +kernel
theorem d_rg_changeOfSupervisor_90 : decode b_rg_changeOfSupervisor 90 = .ok (.aload_n 0, 1) := by decide +kernel
theorem d_rg_changeOfSupervisor_91 : decode b_rg_changeOfSupervisor 91 = .ok (.getfield 25, 3) := by decide +kernel
theorem d_rg_changeOfSupervisor_94 : decode b_rg_changeOfSupervisor 94 = .ok (.iload_n 2, 1) := by decide +kernel
theorem d_rg_changeOfSupervisor_95 : decode b_rg_changeOfSupervisor 95 = .ok (.bipush (-3), 2) := by decide +kernel
theorem d_rg_changeOfSupervisor_97 : decode b_rg_changeOfSupervisor 97 = .ok (.iand, 1) := by decide +kernel
theorem d_rg_changeOfSupervisor_98 : decode b_rg_changeOfSupervisor 98 = .ok (.putfield 62, 3) := by decide +kernel
theorem d_rg_changeOfSupervisor_101 : decode b_rg_changeOfSupervisor 101 = .ok (.goto 49, 3) := by decide +kernel
theorem d_rg_changeOfSupervisor_104 : decode b_rg_changeOfSupervisor 104 = .ok (.aload_n 0, 1) := by decide +kernel
theorem d_rg_changeOfSupervisor_105 : decode b_rg_changeOfSupervisor 105 = .ok (.getfield 25, 3) := by decide +kernel
theorem d_rg_changeOfSupervisor_108 : decode b_rg_changeOfSupervisor 108 = .ok (.iload_n 2, 1) := by decide +kernel
theorem d_rg_changeOfSupervisor_109 : decode b_rg_changeOfSupervisor 109 = .ok (.bipush (-4), 2) := by decide +kernel
theorem d_rg_changeOfSupervisor_111 : decode b_rg_changeOfSupervisor 111 = .ok (.iand, 1) := by decide +kernel
theorem d_rg_changeOfSupervisor_112 : decode b_rg_changeOfSupervisor 112 = .ok (.putfield 65, 3) := by decide +kernel
theorem d_rg_changeOfSupervisor_115 : decode b_rg_changeOfSupervisor 115 = .ok (.goto 35, 3) := by decide +kernel
theorem d_rg_changeOfSupervisor_118 : decode b_rg_changeOfSupervisor 118 = .ok (.aload_n 0, 1) := by decide +kernel
theorem d_rg_changeOfSupervisor_119 : decode b_rg_changeOfSupervisor 119 = .ok (.getfield 25, 3) := by decide +kernel
theorem d_rg_changeOfSupervisor_122 : decode b_rg_changeOfSupervisor 122 = .ok (.iload_n 2, 1) := by decide +kernel
theorem d_rg_changeOfSupervisor_123 : decode b_rg_changeOfSupervisor 123 = .ok (.putfield 68, 3) := by decide +kernel
theorem d_rg_changeOfSupervisor_126 : decode b_rg_changeOfSupervisor 126 = .ok (.goto 24, 3) := by decide +kernel
theorem d_rg_changeOfSupervisor_129 : decode b_rg_changeOfSupervisor 129 = .ok (.aload_n 0, 1) := by decide +kernel
theorem d_rg_changeOfSupervisor_130 : decode b_rg_changeOfSupervisor 130 = .ok (.aload_n 0, 1) := by decide +kernel
theorem d_rg_changeOfSupervisor_131 : decode b_rg_changeOfSupervisor 131 = .ok (.getfield 47, 3) := by decide +kernel
theorem d_rg_changeOfSupervisor_134 : decode b_rg_changeOfSupervisor 134 = .ok (.iload_n 2, 1) := by decide +kernel
theorem d_rg_changeOfSupervisor_135 : decode b_rg_changeOfSupervisor 135 = .ok (.aload_n 0, 1) := by decide +kernel
theorem d_rg_changeOfSupervisor_136 : decode b_rg_changeOfSupervisor 136 = .ok (.getfield 40, 3) := by decide +kernel
theorem d_rg_changeOfSupervisor_139 : decode b_rg_changeOfSupervisor 139 = .ok (.iconst 2, 1) := by decide +kernel
theorem d_rg_changeOfSupervisor_140 : decode b_rg_changeOfSupervisor 140 = .ok (.iand, 1) := by decide +kernel
theorem d_rg_changeOfSupervisor_141 : decode b_rg_changeOfSupervisor 141 = .ok (.invokestatic 93, 3) := by decide +kernel
theorem d_rg_changeOfSupervisor_144 : decode b_rg_changeOfSupervisor 144 = .ok (.putfield 47, 3) := by decide +kernel
theorem d_rg_changeOfSupervisor_147 : decode b_rg_changeOfSupervisor 147 = .ok (.goto 3, 3) := by decide +kernel
theorem d_rg_changeOfSupervisor_150 : decode b_rg_changeOfSupervisor 150 = .ok (.return_, 1) := by decide +kernel
theorem d_so_init_0 : decode b_so_init 0 = .ok (.aload_n 0, 1) := by decide +kernel
theorem d_so_init_1 : decode b_so_init 1 = .ok (.invokespecial 1, 3) := by decide +kernel
theorem d_so_init_4 : decode b_so_init 4 = .ok (.aload_n 0, 1) := by decide +kernel
theorem d_so_init_5 : decode b_so_init 5 = .ok (.bipush 16, 2) := by decide +kernel
theorem d_so_init_7 : decode b_so_init 7 = .ok (.newarray .int, 2) := by decide +kernel
theorem d_so_init_9 : decode b_so_init 9 = .ok (.putfield 9, 3) := by decide +kernel
theorem d_so_init_12 : decode b_so_init 12 = .ok (.aload_n 0, 1) := by decide +kernel
theorem d_so_init_13 : decode b_so_init 13 = .ok (.bipush 16, 2) := by decide +kernel
theorem d_so_init_15 : decode b_so_init 15 = .ok (.newarray .int, 2) := by decide +kernel
theorem d_so_init_17 : decode b_so_init 17 = .ok (.putfield 13, 3) := by decide +kernel
theorem d_so_init_20 : decode b_so_init 20 = .ok (.aload_n 0, 1) := by decide +kernel
theorem d_so_init_21 : decode b_so_init 21 = .ok (.bipush 16, 2) := by decide +kernel
theorem d_so_init_23 : decode b_so_init 23 = .ok (.newarray .int, 2) := by decide +kernel
theorem d_so_init_25 : decode b_so_init 25 = .ok (.putfield 16, 3) := by decide +kernel
theorem d_so_init_28 : decode b_so_init 28 = .ok (.aload_n 0, 1) := by decide +kernel
theorem d_so_init_29 : decode b_so_init 29 = .ok (.iload_n 1, 1) := by decide +kernel
theorem d_so_init_30 : decode b_so_init 30 = .ok (.ldc 19, 2) := by decide +kernel
theorem d_so_init_32 : decode b_so_init 32 = .ok (.iand, 1) := by decide +kernel
theorem d_so_init_33 : decode b_so_init 33 = .ok (.putfield 20, 3) := by decide +kernel
theorem d_so_init_36 : decode b_so_init 36 = .ok (.return_, 1) := by decide +kernel
theorem d_so_drive_0 : decode b_so_drive 0 = .ok (.iload_n 1, 1) := by decide +kernel
theorem d_so_drive_1 : decode b_so_drive 1 = .ok (.aload_n 0, 1) := by decide +kernel
theorem d_so_drive_2 : decode b_so_drive 2 = .ok (.getfield 24, 3) := by decide +kernel
theorem d_so_drive_5 : decode b_so_drive 5 = .ok (.iconst (-1), 1) := by decide +kernel
theorem d_so_drive_6 : decode b_so_drive 6 = .ok (.ixor, 1) := by decide +kernel
theorem d_so_drive_7 : decode b_so_drive 7 = .ok (.iand, 1) := by decide +kernel
theorem d_so_drive_8 : decode b_so_drive 8 = .ok (.aload_n 0, 1) := by decide +kernel
theorem d_so_drive_9 : decode b_so_drive 9 = .ok (.getfield 20, 3) := by decide +kernel
theorem d_so_drive_12 : decode b_so_drive 12 = .ok (.iand, 1) := by decide +kernel
theorem d_so_drive_13 : decode b_so_drive 13 = .ok (.istore_n 2, 1) := by decide +kernel
theorem d_so_drive_14 : decode b_so_drive 14 = .ok (.aload_n 0, 1) := by decide +kernel
theorem d_so_drive_15 : decode b_so_drive 15 = .ok (.iload_n 1, 1) := by decide +kernel
theorem d_so_drive_16 : decode b_so_drive 16 = .ok (.ldc 19, 2) := by decide +kernel
theorem d_so_drive_18 : decode b_so_drive 18 = .ok (.iand, 1) := by decide +kernel
theorem d_so_drive_19 : decode b_so_drive 19 = .ok (.putfield 24, 3) := by decide +kernel
theorem d_so_drive_22 : decode b_so_drive 22 = .ok (.iconst 1, 1) := by decide +kernel
theorem d_so_drive_23 : decode b_so_drive 23 = .ok (.istore_n 3, 1) := by decide +kernel
theorem d_so_drive_24 : decode b_so_drive 24 = .ok (.iload_n 3, 1) := by decide +kernel
theorem d_so_drive_25 : decode b_so_drive 25 = .ok (.bipush 15, 2) := by decide +kernel
theorem d_so_drive_27 : decode b_so_drive 27 = .ok (.if_icmp .gt 43, 3) := by decide +kernel
theorem d_so_drive_30 : decode b_so_drive 30 = .ok (.iload_n 2, 1) := by decide +kernel
theorem d_so_drive_31 : decode b_so_drive 31 = .ok (.iload_n 3, 1) := by decide +kernel
theorem d_so_drive_32 : decode b_so_drive 32 = .ok (.invokestatic 27, 3) := by decide +kernel
theorem d_so_drive_35 : decode b_so_drive 35 = .ok (.ifCond .eq 24, 3) := by decide +kernel
theorem d_so_drive_38 : decode b_so_drive 38 = .ok (.aload_n 0, 1) := by decide +kernel
theorem d_so_drive_39 : decode b_so_drive 39 = .ok (.getfield 13, 3) := by decide +kernel
theorem d_so_drive_42 : decode b_so_drive 42 = .ok (.iload_n 3, 1) := by decide +kernel
theorem d_so_drive_43 : decode b_so_drive 43 = .ok (.iaload, 1) := by decide +kernel
theorem d_so_drive_44 : decode b_so_drive 44 = .ok (.bipush 15, 2) := by decide +kernel
theorem d_so_drive_46 : decode b_so_drive 46 = .ok (.if_icmp .ge 13, 3) := by decide +kernel
theorem d_so_drive_49 : decode b_so_drive 49 = .ok (.aload_n 0, 1) := by decide +kernel
theorem d_so_drive_50 : decode b_so_drive 50 = .ok (.getfield 13, 3) := by decide +kernel
theorem d_so_drive_53 : decode b_so_drive 53 = .ok (.iload_n 3, 1) := by decide +kernel
theorem d_so_drive_54 : decode b_so_drive 54 = .ok (.dup2, 1) := by decide +kernel
theorem d_so_drive_55 : decode b_so_drive 55 = .ok (.iaload, 1) := by decide +kernel
theorem d_so_drive_56 : decode b_so_drive 56 = .ok (.iconst 1, 1) := by decide +kernel
theorem d_so_drive_57 : decode b_so_drive 57 = .ok (.iadd, 1) := by decide +kernel
theorem d_so_drive_58 : decode b_so_drive 58 = .ok (.iastore, 1) := by decide +kernel
theorem d_so_drive_59 : decode b_so_drive 59 = .ok (.aload_n 0, 1) := by decide +kernel
theorem d_so_drive_60 : decode b_so_drive 60 = .ok (.iload_n 3, 1) := by decide +kernel
theorem d_so_drive_61 : decode b_so_drive 61 = .ok (.invokevirtual 33, 3) := by decide +kernel
theorem d_so_drive_64 : decode b_so_drive 64 = .ok (.iinc 3 1, 3) := by decide +kernel
theorem d_so_drive_67 : decode b_so_drive 67 = .ok (.goto (-43), 3) := by decide +kernel
theorem d_so_drive_70 : decode b_so_drive 70 = .ok (.return_, 1) := by decide +kernel
theorem d_so_forward_0 : decode b_so_forward 0 = .ok (.aload_n 0, 1) := by decide +kernel
theorem d_so_forward_1 : decode b_so_forward 1 = .ok (.getfield 37, 3) := by decide +kernel
theorem d_so_forward_4 : decode b_so_forward 4 = .ok (.iload_n 1, 1) := by decide +kernel
theorem d_so_forward_5 : decode b_so_forward 5 = .ok (.invokestatic 27, 3) := by decide +kernel
theorem d_so_forward_8 : decode b_so_forward 8 = .ok (.ifCond .ne 12, 3) := by decide +kernel
theorem d_so_forward_11 : decode b_so_forward 11 = .ok (.aload_n 0, 1) := by decide +kernel
theorem d_so_forward_12 : decode b_so_forward 12 = .ok (.getfield 16, 3) := by decide +kernel
theorem d_so_forward_15 : decode b_so_forward 15 = .ok (.iload_n 1, 1) := by decide +kernel
theorem d_so_forward_16 : decode b_so_forward 16 = .ok (.iaload, 1) := by decide +kernel
theorem d_so_forward_17 : decode b_so_forward 17 = .ok (.ifCond .eq 4, 3) := by decide +kernel
theorem d_so_forward_20 : decode b_so_forward 20 = .ok (.return_, 1) := by decide +kernel
theorem d_so_forward_21 : decode b_so_forward 21 = .ok (.aload_n 0, 1) := by decide +kernel
theorem d_so_forward_22 : decode b_so_forward 22 = .ok (.getfield 20, 3) := by decide +kernel
theorem d_so_forward_25 : decode b_so_forward 25 = .ok (.iload_n 1, 1) := by decide +kernel
theorem d_so_forward_26 : decode b_so_forward 26 = .ok (.invokestatic 27, 3) := by decide +kernel
theorem d_so_forward_29 : decode b_so_forward 29 = .ok (.ifCond .ne 23, 3) := by decide +kernel
theorem d_so_forward_32 : decode b_so_forward 32 = .ok (.aload_n 0, 1) := by decide +kernel
theorem d_so_forward_33 : decode b_so_forward 33 = .ok (.dup, 1) := by decide +kernel
theorem d_so_forward_34 : decode b_so_forward 34 = .ok (.getfield 37, 3) := by decide +kernel
theorem d_so_forward_37 : decode b_so_forward 37 = .ok (.aload_n 0, 1) := by decide +kernel
theorem d_so_forward_38 : decode b_so_forward 38 = .ok (.getfield 24, 3) := by decide +kernel
theorem d_so_forward_41 : decode b_so_forward 41 = .ok (.iconst 1, 1) := by decide +kernel
theorem d_so_forward_42 : decode b_so_forward 42 = .ok (.iload_n 1, 1) := by decide +kernel
theorem d_so_forward_43 : decode b_so_forward 43 = .ok (.ishl, 1) := by decide +kernel
theorem d_so_forward_44 : decode b_so_forward 44 = .ok (.iand, 1) := by decide +kernel
theorem d_so_forward_45 : decode b_so_forward 45 = .ok (.ior, 1) := by decide +kernel
theorem d_so_forward_46 : decode b_so_forward 46 = .ok (.putfield 37, 3) := by decide +kernel
theorem d_so_forward_49 : decode b_so_forward 49 = .ok (.goto 34, 3) := by decide +kernel
theorem d_so_forward_52 : decode b_so_forward 52 = .ok (.aload_n 0, 1) := by decide +kernel
theorem d_so_forward_53 : decode b_so_forward 53 = .ok (.getfield 13, 3) := by decide +kernel
theorem d_so_forward_56 : decode b_so_forward 56 = .ok (.iload_n 1, 1) := by decide +kernel
theorem d_so_forward_57 : decode b_so_forward 57 = .ok (.iaload, 1) := by decide +kernel
theorem d_so_forward_58 : decode b_so_forward 58 = .ok (.ifCond .le 25, 3) := by decide +kernel
theorem d_so_forward_61 : decode b_so_forward 61 = .ok (.aload_n 0, 1) := by decide +kernel
theorem d_so_forward_62 : decode b_so_forward 62 = .ok (.getfield 13, 3) := by decide +kernel
theorem d_so_forward_65 : decode b_so_forward 65 = .ok (.iload_n 1, 1) := by decide +kernel
theorem d_so_forward_66 : decode b_so_forward 66 = .ok (.dup2, 1) := by decide +kernel
theorem d_so_forward_67 : decode b_so_forward 67 = .ok (.iaload, 1) := by decide +kernel
theorem d_so_forward_68 : decode b_so_forward 68 = .ok (.iconst 1, 1) := by decide +kernel
theorem d_so_forward_69 : decode b_so_forward 69 = .ok (.isub, 1) := by decide +kernel
theorem d_so_forward_70 : decode b_so_forward 70 = .ok (.iastore, 1) := by decide +kernel
theorem d_so_forward_71 : decode b_so_forward 71 = .ok (.aload_n 0, 1) := by decide +kernel
theorem d_so_forward_72 : decode b_so_forward 72 = .ok (.dup, 1) := by decide +kernel
theorem d_so_forward_73 : decode b_so_forward 73 = .ok (.getfield 37, 3) := by decide +kernel
theorem d_so_forward_76 : decode b_so_forward 76 = .ok (.iconst 1, 1) := by decide +kernel
theorem d_so_forward_77 : decode b_so_forward 77 = .ok (.iload_n 1, 1) := by decide +kernel
theorem d_so_forward_78 : decode b_so_forward 78 = .ok (.ishl, 1) := by decide +kernel
theorem d_so_forward_79 : decode b_so_forward 79 = .ok (.ior, 1) := by decide +kernel
theorem d_so_forward_80 : decode b_so_forward 80 = .ok (.putfield 37, 3) := by decide +kernel
theorem d_so_forward_83 : decode b_so_forward 83 = .ok (.return_, 1) := by decide +kernel
theorem d_so_best_0 : decode b_so_best 0 = .ok (.iconst 0, 1) := by decide +kernel
theorem d_so_best_1 : decode b_so_best 1 = .ok (.istore_n 3, 1) := by decide +kernel
theorem d_so_best_2 : decode b_so_best 2 = .ok (.iload_n 2, 1) := by decide +kernel
theorem d_so_best_3 : decode b_so_best 3 = .ok (.istore 4, 2) := by decide +kernel
theorem d_so_best_5 : decode b_so_best 5 = .ok (.iconst 1, 1) := by decide +kernel
theorem d_so_best_6 : decode b_so_best 6 = .ok (.istore 5, 2) := by decide +kernel
theorem d_so_best_8 : decode b_so_best 8 = .ok (.iload 5, 2) := by decide +kernel
theorem d_so_best_10 : decode b_so_best 10 = .ok (.bipush 15, 2) := by decide +kernel
theorem d_so_best_12 : decode b_so_best 12 = .ok (.if_icmp .gt 47, 3) := by decide +kernel
theorem d_so_best_15 : decode b_so_best 15 = .ok (.aload_n 0, 1) := by decide +kernel
theorem d_so_best_16 : decode b_so_best 16 = .ok (.getfield 37, 3) := by decide +kernel
theorem d_so_best_19 : decode b_so_best 19 = .ok (.iload_n 1, 1) := by decide +kernel
theorem d_so_best_20 : decode b_so_best 20 = .ok (.iand, 1) := by decide +kernel
theorem d_so_best_21 : decode b_so_best 21 = .ok (.iload 5, 2) := by decide +kernel
theorem d_so_best_23 : decode b_so_best 23 = .ok (.invokestatic 27, 3) := by decide +kernel
theorem d_so_best_26 : decode b_so_best 26 = .ok (.ifCond .eq 27, 3) := by decide +kernel
theorem d_so_best_29 : decode b_so_best 29 = .ok (.aload_n 0, 1) := by decide +kernel
theorem d_so_best_30 : decode b_so_best 30 = .ok (.getfield 9, 3) := by decide +kernel
theorem d_so_best_33 : decode b_so_best 33 = .ok (.iload 5, 2) := by decide +kernel
theorem d_so_best_35 : decode b_so_best 35 = .ok (.iaload, 1) := by decide +kernel
theorem d_so_best_36 : decode b_so_best 36 = .ok (.iload 4, 2) := by decide +kernel
theorem d_so_best_38 : decode b_so_best 38 = .ok (.if_icmp .le 15, 3) := by decide +kernel
theorem d_so_best_41 : decode b_so_best 41 = .ok (.iload 5, 2) := by decide +kernel
theorem d_so_best_43 : decode b_so_best 43 = .ok (.istore_n 3, 1) := by decide +kernel
theorem d_so_best_44 : decode b_so_best 44 = .ok (.aload_n 0, 1) := by decide +kernel
theorem d_so_best_45 : decode b_so_best 45 = .ok (.getfield 9, 3) := by decide +kernel
theorem d_so_best_48 : decode b_so_best 48 = .ok (.iload 5, 2) := by decide +kernel
theorem d_so_best_50 : decode b_so_best 50 = .ok (.iaload, 1) := by decide +kernel
theorem d_so_best_51 : decode b_so_best 51 = .ok (.istore 4, 2) := by decide +kernel
theorem d_so_best_53 : decode b_so_best 53 = .ok (.iinc 5 1, 3) := by decide +kernel
theorem d_so_best_56 : decode b_so_best 56 = .ok (.goto (-48), 3) := by decide +kernel
theorem d_so_best_59 : decode b_so_best 59 = .ok (.iload_n 3, 1) := by decide +kernel
theorem d_so_best_60 : decode b_so_best 60 = .ok (.ireturn, 1) := by decide +kernel
theorem d_so_serve_0 : decode b_so_serve 0 = .ok (.aload_n 0, 1) := by decide +kernel
theorem d_so_serve_1 : decode b_so_serve 1 = .ok (.dup, 1) := by decide +kernel
theorem d_so_serve_2 : decode b_so_serve 2 = .ok (.getfield 37, 3) := by decide +kernel
theorem d_so_serve_5 : decode b_so_serve 5 = .ok (.iconst 1, 1) := by decide +kernel
theorem d_so_serve_6 : decode b_so_serve 6 = .ok (.iload_n 1, 1) := by decide +kernel
theorem d_so_serve_7 : decode b_so_serve 7 = .ok (.ishl, 1) := by decide +kernel
theorem d_so_serve_8 : decode b_so_serve 8 = .ok (.iconst (-1), 1) := by decide +kernel
theorem d_so_serve_9 : decode b_so_serve 9 = .ok (.ixor, 1) := by decide +kernel
theorem d_so_serve_10 : decode b_so_serve 10 = .ok (.iand, 1) := by decide +kernel
theorem d_so_serve_11 : decode b_so_serve 11 = .ok (.putfield 37, 3) := by decide +kernel
theorem d_so_serve_14 : decode b_so_serve 14 = .ok (.aload_n 0, 1) := by decide +kernel
theorem d_so_serve_15 : decode b_so_serve 15 = .ok (.getfield 16, 3) := by decide +kernel
theorem d_so_serve_18 : decode b_so_serve 18 = .ok (.iload_n 1, 1) := by decide +kernel
theorem d_so_serve_19 : decode b_so_serve 19 = .ok (.iload_n 2, 1) := by decide +kernel
theorem d_so_serve_20 : decode b_so_serve 20 = .ok (.iastore, 1) := by decide +kernel
theorem d_so_serve_21 : decode b_so_serve 21 = .ok (.return_, 1) := by decide +kernel
theorem d_so_release_0 : decode b_so_release 0 = .ok (.aload_n 0, 1) := by decide +kernel
theorem d_so_release_1 : decode b_so_release 1 = .ok (.getfield 16, 3) := by decide +kernel
theorem d_so_release_4 : decode b_so_release 4 = .ok (.iload_n 1, 1) := by decide +kernel
theorem d_so_release_5 : decode b_so_release 5 = .ok (.iaload, 1) := by decide +kernel
theorem d_so_release_6 : decode b_so_release 6 = .ok (.ifCond .eq 15, 3) := by decide +kernel
theorem d_so_release_9 : decode b_so_release 9 = .ok (.aload_n 0, 1) := by decide +kernel
theorem d_so_release_10 : decode b_so_release 10 = .ok (.getfield 16, 3) := by decide +kernel
theorem d_so_release_13 : decode b_so_release 13 = .ok (.iload_n 1, 1) := by decide +kernel
theorem d_so_release_14 : decode b_so_release 14 = .ok (.iconst 0, 1) := by decide +kernel
theorem d_so_release_15 : decode b_so_release 15 = .ok (.iastore, 1) := by decide +kernel
theorem d_so_release_16 : decode b_so_release 16 = .ok (.aload_n 0, 1) := by decide +kernel
theorem d_so_release_17 : decode b_so_release 17 = .ok (.iload_n 1, 1) := by decide +kernel
theorem d_so_release_18 : decode b_so_release 18 = .ok (.invokevirtual 33, 3) := by decide +kernel
theorem d_so_release_21 : decode b_so_release 21 = .ok (.return_, 1) := by decide +kernel
theorem d_st_init_0 : decode b_st_init 0 = .ok (.aload_n 0, 1) := by decide +kernel
theorem d_st_init_1 : decode b_st_init 1 = .ok (.invokespecial 3, 3) := by decide +kernel
theorem d_st_init_4 : decode b_st_init 4 = .ok (.return_, 1) := by decide +kernel
theorem d_st_machineOpen_0 : decode b_st_machineOpen 0 = .ok (.aload_n 0, 1) := by decide +kernel
theorem d_st_machineOpen_1 : decode b_st_machineOpen 1 = .ok (.getfield 9, 3) := by decide +kernel
theorem d_st_machineOpen_4 : decode b_st_machineOpen 4 = .ok (.bipush 8, 2) := by decide +kernel
theorem d_st_machineOpen_6 : decode b_st_machineOpen 6 = .ok (.iand, 1) := by decide +kernel
theorem d_st_machineOpen_7 : decode b_st_machineOpen 7 = .ok (.ifCond .eq 7, 3) := by decide +kernel
theorem d_st_machineOpen_10 : decode b_st_machineOpen 10 = .ok (.iconst 1, 1) := by decide +kernel
theorem d_st_machineOpen_11 : decode b_st_machineOpen 11 = .ok (.goto 4, 3) := by decide +kernel
theorem d_st_machineOpen_14 : decode b_st_machineOpen 14 = .ok (.iconst 0, 1) := by decide +kernel
theorem d_st_machineOpen_15 : decode b_st_machineOpen 15 = .ok (.ireturn, 1) := by decide +kernel
theorem d_st_supervisorOpen_0 : decode b_st_supervisorOpen 0 = .ok (.aload_n 0, 1) := by decide +kernel
theorem d_st_supervisorOpen_1 : decode b_st_supervisorOpen 1 = .ok (.getfield 9, 3) := by decide +kernel
theorem d_st_supervisorOpen_4 : decode b_st_supervisorOpen 4 = .ok (.iconst 2, 1) := by decide +kernel
theorem d_st_supervisorOpen_5 : decode b_st_supervisorOpen 5 = .ok (.iand, 1) := by decide +kernel
theorem d_st_supervisorOpen_6 : decode b_st_supervisorOpen 6 = .ok (.ifCond .eq 7, 3) := by decide +kernel
theorem d_st_supervisorOpen_9 : decode b_st_supervisorOpen 9 = .ok (.iconst 1, 1) := by decide +kernel
theorem d_st_supervisorOpen_10 : decode b_st_supervisorOpen 10 = .ok (.goto 4, 3) := by decide +kernel
theorem d_st_supervisorOpen_13 : decode b_st_supervisorOpen 13 = .ok (.iconst 0, 1) := by decide +kernel
theorem d_st_supervisorOpen_14 : decode b_st_supervisorOpen 14 = .ok (.ireturn, 1) := by decide +kernel
theorem d_st_changeByMachine_0 : decode b_st_changeByMachine 0 = .ok (.iload_n 1, 1) := by decide +kernel
theorem d_st_changeByMachine_1 : decode b_st_changeByMachine 1 = .ok (.sipush 6144, 3) := by decide +kernel
theorem d_st_changeByMachine_4 : decode b_st_changeByMachine 4 = .ok (.iand, 1) := by decide +kernel
theorem d_st_changeByMachine_5 : decode b_st_changeByMachine 5 = .ok (.sipush 4096, 3) := by decide +kernel
theorem d_st_changeByMachine_8 : decode b_st_changeByMachine 8 = .ok (.if_icmp .ne 7, 3) := by decide +kernel
theorem d_st_changeByMachine_11 : decode b_st_changeByMachine 11 = .ok (.iconst 1, 1) := by decide +kernel
theorem d_st_changeByMachine_12 : decode b_st_changeByMachine 12 = .ok (.goto 4, 3) := by decide +kernel
theorem d_st_changeByMachine_15 : decode b_st_changeByMachine 15 = .ok (.iconst 0, 1) := by decide +kernel
theorem d_st_changeByMachine_16 : decode b_st_changeByMachine 16 = .ok (.istore_n 2, 1) := by decide +kernel
theorem d_st_changeByMachine_17 : decode b_st_changeByMachine 17 = .ok (.aload_n 0, 1) := by decide +kernel
theorem d_st_changeByMachine_18 : decode b_st_changeByMachine 18 = .ok (.aload_n 0, 1) := by decide +kernel
theorem d_st_changeByMachine_19 : decode b_st_changeByMachine 19 = .ok (.getfield 9, 3) := by decide +kernel
theorem d_st_changeByMachine_22 : decode b_st_changeByMachine 22 = .ok (.iload_n 1, 1) := by decide +kernel
theorem d_st_changeByMachine_23 : decode b_st_changeByMachine 23 = .ok (.iload_n 2, 1) := by decide +kernel
theorem d_st_changeByMachine_24 : decode b_st_changeByMachine 24 = .ok (.ifCond .eq 9, 3) := by decide +kernel
theorem d_st_changeByMachine_27 : decode b_st_changeByMachine 27 = .ok (.sipush 426, 3) := by decide +kernel
theorem d_st_changeByMachine_30 : decode b_st_changeByMachine 30 = .ok (.goto 6, 3) := by decide +kernel
theorem d_st_changeByMachine_33 : decode b_st_changeByMachine 33 = .ok (.sipush 6570, 3) := by decide +kernel
theorem d_st_changeByMachine_36 : decode b_st_changeByMachine 36 = .ok (.invokestatic 13, 3) := by decide +kernel
theorem d_st_changeByMachine_39 : decode b_st_changeByMachine 39 = .ok (.putfield 9, 3) := by decide +kernel
theorem d_st_changeByMachine_42 : decode b_st_changeByMachine 42 = .ok (.return_, 1) := by decide +kernel
theorem d_st_changeBySupervisor_0 : decode b_st_changeBySupervisor 0 = .ok (.aload_n 0, 1) := by decide +kernel
theorem d_st_changeBySupervisor_1 : decode b_st_changeBySupervisor 1 = .ok (.aload_n 0, 1) := by decide +kernel
theorem d_st_changeBySupervisor_2 : decode b_st_changeBySupervisor 2 = .ok (.getfield 9, 3) := by decide +kernel
theorem d_st_changeBySupervisor_5 : decode b_st_changeBySupervisor 5 = .ok (.iload_n 1, 1) := by decide +kernel
theorem d_st_changeBySupervisor_6 : decode b_st_changeBySupervisor 6 = .ok (.sipush 290, 3) := by decide +kernel
theorem d_st_changeBySupervisor_9 : decode b_st_changeBySupervisor 9 = .ok (.invokestatic 13, 3) := by decide +kernel
theorem d_st_changeBySupervisor_12 : decode b_st_changeBySupervisor 12 = .ok (.putfield 9, 3) := by decide +kernel
theorem d_st_changeBySupervisor_15 : decode b_st_changeBySupervisor 15 = .ok (.return_, 1) := by decide +kernel
theorem d_st_enterMachine_0 : decode b_st_enterMachine 0 = .ok (.aload_n 0, 1) := by decide +kernel
theorem d_st_enterMachine_1 : decode b_st_enterMachine 1 = .ok (.getfield 9, 3) := by decide +kernel
theorem d_st_enterMachine_4 : decode b_st_enterMachine 4 = .ok (.bipush 8, 2) := by decide +kernel
theorem d_st_enterMachine_6 : decode b_st_enterMachine 6 = .ok (.iand, 1) := by decide +kernel
theorem d_st_enterMachine_7 : decode b_st_enterMachine 7 = .ok (.iconst 4, 1) := by decide +kernel
theorem d_st_enterMachine_8 : decode b_st_enterMachine 8 = .ok (.ishl, 1) := by decide +kernel
theorem d_st_enterMachine_9 : decode b_st_enterMachine 9 = .ok (.iload_n 1, 1) := by decide +kernel
theorem d_st_enterMachine_10 : decode b_st_enterMachine 10 = .ok (.bipush 11, 2) := by decide +kernel
theorem d_st_enterMachine_12 : decode b_st_enterMachine 12 = .ok (.ishl, 1) := by decide +kernel
theorem d_st_enterMachine_13 : decode b_st_enterMachine 13 = .ok (.ior, 1) := by decide +kernel
theorem d_st_enterMachine_14 : decode b_st_enterMachine 14 = .ok (.istore_n 2, 1) := by decide +kernel
theorem d_st_enterMachine_15 : decode b_st_enterMachine 15 = .ok (.aload_n 0, 1) := by decide +kernel
theorem d_st_enterMachine_16 : decode b_st_enterMachine 16 = .ok (.aload_n 0, 1) := by decide +kernel
theorem d_st_enterMachine_17 : decode b_st_enterMachine 17 = .ok (.getfield 9, 3) := by decide +kernel
theorem d_st_enterMachine_20 : decode b_st_enterMachine 20 = .ok (.iload_n 2, 1) := by decide +kernel
theorem d_st_enterMachine_21 : decode b_st_enterMachine 21 = .ok (.sipush 6280, 3) := by decide +kernel
theorem d_st_enterMachine_24 : decode b_st_enterMachine 24 = .ok (.invokestatic 13, 3) := by decide +kernel
theorem d_st_enterMachine_27 : decode b_st_enterMachine 27 = .ok (.putfield 9, 3) := by decide +kernel
theorem d_st_enterMachine_30 : decode b_st_enterMachine 30 = .ok (.return_, 1) := by decide +kernel
theorem d_st_enterSupervisor_0 : decode b_st_enterSupervisor 0 = .ok (.aload_n 0, 1) := by decide +kernel
theorem d_st_enterSupervisor_1 : decode b_st_enterSupervisor 1 = .ok (.getfield 9, 3) := by decide +kernel
theorem d_st_enterSupervisor_4 : decode b_st_enterSupervisor 4 = .ok (.iconst 2, 1) := by decide +kernel
theorem d_st_enterSupervisor_5 : decode b_st_enterSupervisor 5 = .ok (.iand, 1) := by decide +kernel
theorem d_st_enterSupervisor_6 : decode b_st_enterSupervisor 6 = .ok (.iconst 4, 1) := by decide +kernel
theorem d_st_enterSupervisor_7 : decode b_st_enterSupervisor 7 = .ok (.ishl, 1) := by decide +kernel
theorem d_st_enterSupervisor_8 : decode b_st_enterSupervisor 8 = .ok (.iload_n 1, 1) := by decide +kernel
theorem d_st_enterSupervisor_9 : decode b_st_enterSupervisor 9 = .ok (.bipush 8, 2) := by decide +kernel
theorem d_st_enterSupervisor_11 : decode b_st_enterSupervisor 11 = .ok (.ishl, 1) := by decide +kernel
theorem d_st_enterSupervisor_12 : decode b_st_enterSupervisor 12 = .ok (.ior, 1) := by decide +kernel
theorem d_st_enterSupervisor_13 : decode b_st_enterSupervisor 13 = .ok (.istore_n 2, 1) := by decide +kernel
theorem d_st_enterSupervisor_14 : decode b_st_enterSupervisor 14 = .ok (.aload_n 0, 1) := by decide +kernel
theorem d_st_enterSupervisor_15 : decode b_st_enterSupervisor 15 = .ok (.aload_n 0, 1) := by decide +kernel
theorem d_st_enterSupervisor_16 : decode b_st_enterSupervisor 16 = .ok (.getfield 9, 3) := by decide +kernel
theorem d_st_enterSupervisor_19 : decode b_st_enterSupervisor 19 = .ok (.iload_n 2, 1) := by decide +kernel
theorem d_st_enterSupervisor_20 : decode b_st_enterSupervisor 20 = .ok (.sipush 290, 3) := by decide +kernel
theorem d_st_enterSupervisor_23 : decode b_st_enterSupervisor 23 = .ok (.invokestatic 13, 3) := by decide +kernel
theorem d_st_enterSupervisor_26 : decode b_st_enterSupervisor 26 = .ok (.putfield 9, 3) := by decide +kernel
theorem d_st_enterSupervisor_29 : decode b_st_enterSupervisor 29 = .ok (.return_, 1) := by decide +kernel
theorem d_st_leaveMachine_0 : decode b_st_leaveMachine 0 = .ok (.aload_n 0, 1) := by decide +kernel
theorem d_st_leaveMachine_1 : decode b_st_leaveMachine 1 = .ok (.getfield 9, 3) := by decide +kernel
theorem d_st_leaveMachine_4 : decode b_st_leaveMachine 4 = .ok (.sipush 6144, 3) := by decide +kernel
theorem d_st_leaveMachine_7 : decode b_st_leaveMachine 7 = .ok (.iand, 1) := by decide +kernel
theorem d_st_leaveMachine_8 : decode b_st_leaveMachine 8 = .ok (.bipush 11, 2) := by decide +kernel
theorem d_st_leaveMachine_10 : decode b_st_leaveMachine 10 = .ok (.ishr, 1) := by decide +kernel
theorem d_st_leaveMachine_11 : decode b_st_leaveMachine 11 = .ok (.istore_n 1, 1) := by decide +kernel
theorem d_st_leaveMachine_12 : decode b_st_leaveMachine 12 = .ok (.aload_n 0, 1) := by decide +kernel
theorem d_st_leaveMachine_13 : decode b_st_leaveMachine 13 = .ok (.getfield 9, 3) := by decide +kernel
theorem d_st_leaveMachine_16 : decode b_st_leaveMachine 16 = .ok (.sipush 128, 3) := by decide +kernel
theorem d_st_leaveMachine_19 : decode b_st_leaveMachine 19 = .ok (.iand, 1) := by decide +kernel
theorem d_st_leaveMachine_20 : decode b_st_leaveMachine 20 = .ok (.iconst 4, 1) := by decide +kernel
theorem d_st_leaveMachine_21 : decode b_st_leaveMachine 21 = .ok (.ishr, 1) := by decide +kernel
theorem d_st_leaveMachine_22 : decode b_st_leaveMachine 22 = .ok (.sipush 128, 3) := by decide +kernel
theorem d_st_leaveMachine_25 : decode b_st_leaveMachine 25 = .ok (.ior, 1) := by decide +kernel
theorem d_st_leaveMachine_26 : decode b_st_leaveMachine 26 = .ok (.istore_n 2, 1) := by decide +kernel
theorem d_st_leaveMachine_27 : decode b_st_leaveMachine 27 = .ok (.aload_n 0, 1) := by decide +kernel
theorem d_st_leaveMachine_28 : decode b_st_leaveMachine 28 = .ok (.aload_n 0, 1) := by decide +kernel
theorem d_st_leaveMachine_29 : decode b_st_leaveMachine 29 = .ok (.getfield 9, 3) := by decide +kernel
theorem d_st_leaveMachine_32 : decode b_st_leaveMachine 32 = .ok (.iload_n 2, 1) := by decide +kernel
theorem d_st_leaveMachine_33 : decode b_st_leaveMachine 33 = .ok (.sipush 6280, 3) := by decide +kernel
theorem d_st_leaveMachine_36 : decode b_st_leaveMachine 36 = .ok (.invokestatic 13, 3) := by decide +kernel
theorem d_st_leaveMachine_39 : decode b_st_leaveMachine 39 = .ok (.putfield 9, 3) := by decide +kernel
theorem d_st_leaveMachine_42 : decode b_st_leaveMachine 42 = .ok (.iload_n 1, 1) := by decide +kernel
theorem d_st_leaveMachine_43 : decode b_st_leaveMachine 43 = .ok (.ireturn, 1) := by decide +kernel
theorem d_st_leaveSupervisor_0 : decode b_st_leaveSupervisor 0 = .ok (.aload_n 0, 1) := by decide +kernel
theorem d_st_leaveSupervisor_1 : decode b_st_leaveSupervisor 1 = .ok (.getfield 9, 3) := by decide +kernel
theorem d_st_leaveSupervisor_4 : decode b_st_leaveSupervisor 4 = .ok (.sipush 256, 3) := by decide +kernel
theorem d_st_leaveSupervisor_7 : decode b_st_leaveSupervisor 7 = .ok (.iand, 1) := by decide +kernel
theorem d_st_leaveSupervisor_8 : decode b_st_leaveSupervisor 8 = .ok (.bipush 8, 2) := by decide +kernel
theorem d_st_leaveSupervisor_10 : decode b_st_leaveSupervisor 10 = .ok (.ishr, 1) := by decide +kernel
theorem d_st_leaveSupervisor_11 : decode b_st_leaveSupervisor 11 = .ok (.istore_n 1, 1) := by decide +kernel
theorem d_st_leaveSupervisor_12 : decode b_st_leaveSupervisor 12 = .ok (.aload_n 0, 1) := by decide +kernel
theorem d_st_leaveSupervisor_13 : decode b_st_leaveSupervisor 13 = .ok (.getfield 9, 3) := by decide +kernel
theorem d_st_leaveSupervisor_16 : decode b_st_leaveSupervisor 16 = .ok (.bipush 32, 2) := by decide +kernel
theorem d_st_leaveSupervisor_18 : decode b_st_leaveSupervisor 18 = .ok (.iand, 1) := by decide +kernel
theorem d_st_leaveSupervisor_19 : decode b_st_leaveSupervisor 19 = .ok (.iconst 4, 1) := by decide +kernel
theorem d_st_leaveSupervisor_20 : decode b_st_leaveSupervisor 20 = .ok (.ishr, 1) := by decide +kernel
theorem d_st_leaveSupervisor_21 : decode b_st_leaveSupervisor 21 = .ok (.bipush 32, 2) := by decide +kernel
theorem d_st_leaveSupervisor_23 : decode b_st_leaveSupervisor 23 = .ok (.ior, 1) := by decide +kernel
theorem d_st_leaveSupervisor_24 : decode b_st_leaveSupervisor 24 = .ok (.istore_n 2, 1) := by decide +kernel
