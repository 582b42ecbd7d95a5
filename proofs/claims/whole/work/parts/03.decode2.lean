theorem dX8_nextToken_184 : decode cX8_nextToken 184 = .ok (.iaload, 1) := by decide +kernel
theorem dX8_nextToken_185 : decode cX8_nextToken 185 = .ok (.i2l, 1) := by decide +kernel
theorem dX8_nextToken_186 : decode cX8_nextToken 186 = .ok (.ldc2_w 95, 3) := by decide +kernel
theorem dX8_nextToken_189 : decode cX8_nextToken 189 = .ok (.ldc2_w 97, 3) := by decide +kernel
theorem dX8_nextToken_192 : decode cX8_nextToken 192 = .ok (.invokestatic 54, 3) := by decide +kernel
theorem dX8_nextToken_195 : decode cX8_nextToken 195 = .ok (.ifCond .eq 60, 3) := by decide +kernel
theorem dX8_nextToken_198 : decode cX8_nextToken 198 = .ok (.aload_n 0, 1) := by decide +kernel
theorem dX8_nextToken_199 : decode cX8_nextToken 199 = .ok (.aload_n 0, 1) := by decide +kernel
theorem dX8_nextToken_200 : decode cX8_nextToken 200 = .ok (.getfield 84, 3) := by decide +kernel
theorem dX8_nextToken_203 : decode cX8_nextToken 203 = .ok (.aload_n 0, 1) := by decide +kernel
theorem dX8_nextToken_204 : decode cX8_nextToken 204 = .ok (.getfield 78, 3) := by decide +kernel
theorem dX8_nextToken_207 : decode cX8_nextToken 207 = .ok (.isub, 1) := by decide +kernel
theorem dX8_nextToken_208 : decode cX8_nextToken 208 = .ok (.iconst 2, 1) := by decide +kernel
theorem dX8_nextToken_209 : decode cX8_nextToken 209 = .ok (.if_icmp .ge 26, 3) := by decide +kernel
theorem dX8_nextToken_212 : decode cX8_nextToken 212 = .ok (.bipush 10, 2) := by decide +kernel
theorem dX8_nextToken_214 : decode cX8_nextToken 214 = .ok (.aload_n 0, 1) := by decide +kernel
theorem dX8_nextToken_215 : decode cX8_nextToken 215 = .ok (.getfield 88, 3) := by decide +kernel
theorem dX8_nextToken_218 : decode cX8_nextToken 218 = .ok (.imul, 1) := by decide +kernel
theorem dX8_nextToken_219 : decode cX8_nextToken 219 = .ok (.aload_n 0, 1) := by decide +kernel
theorem dX8_nextToken_220 : decode cX8_nextToken 220 = .ok (.getfield 31, 3) := by decide +kernel
theorem dX8_nextToken_223 : decode cX8_nextToken 223 = .ok (.aload_n 0, 1) := by decide +kernel
theorem dX8_nextToken_224 : decode cX8_nextToken 224 = .ok (.getfield 84, 3) := by decide +kernel
theorem dX8_nextToken_227 : decode cX8_nextToken 227 = .ok (.iaload, 1) := by decide +kernel
theorem dX8_nextToken_228 : decode cX8_nextToken 228 = .ok (.iadd, 1) := by decide +kernel
theorem dX8_nextToken_229 : decode cX8_nextToken 229 = .ok (.bipush 48, 2) := by decide +kernel
theorem dX8_nextToken_231 : decode cX8_nextToken 231 = .ok (.isub, 1) := by decide +kernel
theorem dX8_nextToken_232 : decode cX8_nextToken 232 = .ok (.goto 7, 3) := by decide +kernel
theorem dX8_nextToken_235 : decode cX8_nextToken 235 = .ok (.aload_n 0, 1) := by decide +kernel
theorem dX8_nextToken_236 : decode cX8_nextToken 236 = .ok (.getfield 88, 3) := by decide +kernel
theorem dX8_nextToken_239 : decode cX8_nextToken 239 = .ok (.putfield 88, 3) := by decide +kernel
theorem dX8_nextToken_242 : decode cX8_nextToken 242 = .ok (.aload_n 0, 1) := by decide +kernel
theorem dX8_nextToken_243 : decode cX8_nextToken 243 = .ok (.dup, 1) := by decide +kernel
theorem dX8_nextToken_244 : decode cX8_nextToken 244 = .ok (.getfield 84, 3) := by decide +kernel
theorem dX8_nextToken_247 : decode cX8_nextToken 247 = .ok (.iconst 1, 1) := by decide +kernel
theorem dX8_nextToken_248 : decode cX8_nextToken 248 = .ok (.iadd, 1) := by decide +kernel
theorem dX8_nextToken_249 : decode cX8_nextToken 249 = .ok (.putfield 84, 3) := by decide +kernel
theorem dX8_nextToken_252 : decode cX8_nextToken 252 = .ok (.goto (-87), 3) := by decide +kernel
theorem dX8_nextToken_255 : decode cX8_nextToken 255 = .ok (.aload_n 0, 1) := by decide +kernel
theorem dX8_nextToken_256 : decode cX8_nextToken 256 = .ok (.aload_n 0, 1) := by decide +kernel
theorem dX8_nextToken_257 : decode cX8_nextToken 257 = .ok (.getfield 84, 3) := by decide +kernel
theorem dX8_nextToken_260 : decode cX8_nextToken 260 = .ok (.aload_n 0, 1) := by decide +kernel
theorem dX8_nextToken_261 : decode cX8_nextToken 261 = .ok (.getfield 78, 3) := by decide +kernel
theorem dX8_nextToken_264 : decode cX8_nextToken 264 = .ok (.isub, 1) := by decide +kernel
theorem dX8_nextToken_265 : decode cX8_nextToken 265 = .ok (.iconst 2, 1) := by decide +kernel
theorem dX8_nextToken_266 : decode cX8_nextToken 266 = .ok (.if_icmp .le 7, 3) := by decide +kernel
theorem dX8_nextToken_269 : decode cX8_nextToken 269 = .ok (.iconst 0, 1) := by decide +kernel
theorem dX8_nextToken_270 : decode cX8_nextToken 270 = .ok (.goto 4, 3) := by decide +kernel
theorem dX8_nextToken_273 : decode cX8_nextToken 273 = .ok (.iconst 3, 1) := by decide +kernel
theorem dX8_nextToken_274 : decode cX8_nextToken 274 = .ok (.putfield 99, 3) := by decide +kernel
theorem dX8_nextToken_277 : decode cX8_nextToken 277 = .ok (.return_, 1) := by decide +kernel
theorem dX8_must_0 : decode cX8_must 0 = .ok (.iload_n 1, 1) := by decide +kernel
theorem dX8_must_1 : decode cX8_must 1 = .ok (.ifCond .ne 8, 3) := by decide +kernel
theorem dX8_must_4 : decode cX8_must 4 = .ok (.aload_n 0, 1) := by decide +kernel
theorem dX8_must_5 : decode cX8_must 5 = .ok (.iconst 1, 1) := by decide +kernel
theorem dX8_must_6 : decode cX8_must 6 = .ok (.invokevirtual 102, 3) := by decide +kernel
theorem dX8_must_9 : decode cX8_must 9 = .ok (.aload_n 0, 1) := by decide +kernel
theorem dX8_must_10 : decode cX8_must 10 = .ok (.getfield 75, 3) := by decide +kernel
theorem dX8_must_13 : decode cX8_must 13 = .ok (.ifCond .ne 7, 3) := by decide +kernel
theorem dX8_must_16 : decode cX8_must 16 = .ok (.aload_n 0, 1) := by decide +kernel
theorem dX8_must_17 : decode cX8_must 17 = .ok (.invokevirtual 106, 3) := by decide +kernel
theorem dX8_must_20 : decode cX8_must 20 = .ok (.return_, 1) := by decide +kernel
theorem dX8_isLetter_0 : decode cX8_isLetter 0 = .ok (.aload_n 0, 1) := by decide +kernel
theorem dX8_isLetter_1 : decode cX8_isLetter 1 = .ok (.getfield 75, 3) := by decide +kernel
theorem dX8_isLetter_4 : decode cX8_isLetter 4 = .ok (.ifCond .ne 23, 3) := by decide +kernel
theorem dX8_isLetter_7 : decode cX8_isLetter 7 = .ok (.aload_n 0, 1) := by decide +kernel
theorem dX8_isLetter_8 : decode cX8_isLetter 8 = .ok (.getfield 99, 3) := by decide +kernel
theorem dX8_isLetter_11 : decode cX8_isLetter 11 = .ok (.iconst 2, 1) := by decide +kernel
theorem dX8_isLetter_12 : decode cX8_isLetter 12 = .ok (.if_icmp .ne 15, 3) := by decide +kernel
theorem dX8_isLetter_15 : decode cX8_isLetter 15 = .ok (.aload_n 0, 1) := by decide +kernel
theorem dX8_isLetter_16 : decode cX8_isLetter 16 = .ok (.getfield 88, 3) := by decide +kernel
theorem dX8_isLetter_19 : decode cX8_isLetter 19 = .ok (.iload_n 1, 1) := by decide +kernel
theorem dX8_isLetter_20 : decode cX8_isLetter 20 = .ok (.if_icmp .ne 7, 3) := by decide +kernel
theorem dX8_isLetter_23 : decode cX8_isLetter 23 = .ok (.iconst 1, 1) := by decide +kernel
theorem dX8_isLetter_24 : decode cX8_isLetter 24 = .ok (.goto 4, 3) := by decide +kernel
theorem dX8_isLetter_27 : decode cX8_isLetter 27 = .ok (.iconst 0, 1) := by decide +kernel
theorem dX8_isLetter_28 : decode cX8_isLetter 28 = .ok (.ireturn, 1) := by decide +kernel
theorem dX8_number_0 : decode cX8_number 0 = .ok (.aload_n 0, 1) := by decide +kernel
theorem dX8_number_1 : decode cX8_number 1 = .ok (.getfield 75, 3) := by decide +kernel
theorem dX8_number_4 : decode cX8_number 4 = .ok (.ifCond .ne 16, 3) := by decide +kernel
theorem dX8_number_7 : decode cX8_number 7 = .ok (.aload_n 0, 1) := by decide +kernel
theorem dX8_number_8 : decode cX8_number 8 = .ok (.getfield 99, 3) := by decide +kernel
theorem dX8_number_11 : decode cX8_number 11 = .ok (.iconst 3, 1) := by decide +kernel
theorem dX8_number_12 : decode cX8_number 12 = .ok (.if_icmp .eq 8, 3) := by decide +kernel
theorem dX8_number_15 : decode cX8_number 15 = .ok (.aload_n 0, 1) := by decide +kernel
theorem dX8_number_16 : decode cX8_number 16 = .ok (.iconst 1, 1) := by decide +kernel
theorem dX8_number_17 : decode cX8_number 17 = .ok (.invokevirtual 102, 3) := by decide +kernel
theorem dX8_number_20 : decode cX8_number 20 = .ok (.aload_n 0, 1) := by decide +kernel
theorem dX8_number_21 : decode cX8_number 21 = .ok (.getfield 75, 3) := by decide +kernel
theorem dX8_number_24 : decode cX8_number 24 = .ok (.ifCond .ne 23, 3) := by decide +kernel
theorem dX8_number_27 : decode cX8_number 27 = .ok (.aload_n 0, 1) := by decide +kernel
theorem dX8_number_28 : decode cX8_number 28 = .ok (.getfield 88, 3) := by decide +kernel
theorem dX8_number_31 : decode cX8_number 31 = .ok (.i2l, 1) := by decide +kernel
theorem dX8_number_32 : decode cX8_number 32 = .ok (.iload_n 1, 1) := by decide +kernel
theorem dX8_number_33 : decode cX8_number 33 = .ok (.i2l, 1) := by decide +kernel
theorem dX8_number_34 : decode cX8_number 34 = .ok (.iload_n 2, 1) := by decide +kernel
theorem dX8_number_35 : decode cX8_number 35 = .ok (.i2l, 1) := by decide +kernel
theorem dX8_number_36 : decode cX8_number 36 = .ok (.invokestatic 54, 3) := by decide +kernel
theorem dX8_number_39 : decode cX8_number 39 = .ok (.ifCond .ne 8, 3) := by decide +kernel
theorem dX8_number_42 : decode cX8_number 42 = .ok (.aload_n 0, 1) := by decide +kernel
theorem dX8_number_43 : decode cX8_number 43 = .ok (.iconst 2, 1) := by decide +kernel
theorem dX8_number_44 : decode cX8_number 44 = .ok (.invokevirtual 102, 3) := by decide +kernel
theorem dX8_number_47 : decode cX8_number 47 = .ok (.aload_n 0, 1) := by decide +kernel
theorem dX8_number_48 : decode cX8_number 48 = .ok (.getfield 75, 3) := by decide +kernel
theorem dX8_number_51 : decode cX8_number 51 = .ok (.ifCond .ne 10, 3) := by decide +kernel
theorem dX8_number_54 : decode cX8_number 54 = .ok (.aload_n 0, 1) := by decide +kernel
theorem dX8_number_55 : decode cX8_number 55 = .ok (.getfield 88, 3) := by decide +kernel
theorem dX8_number_58 : decode cX8_number 58 = .ok (.goto 4, 3) := by decide +kernel
theorem dX8_number_61 : decode cX8_number 61 = .ok (.iload_n 1, 1) := by decide +kernel
theorem dX8_number_62 : decode cX8_number 62 = .ok (.istore_n 3, 1) := by decide +kernel
theorem dX8_number_63 : decode cX8_number 63 = .ok (.aload_n 0, 1) := by decide +kernel
theorem dX8_number_64 : decode cX8_number 64 = .ok (.iconst 1, 1) := by decide +kernel
theorem dX8_number_65 : decode cX8_number 65 = .ok (.invokevirtual 109, 3) := by decide +kernel
theorem dX8_number_68 : decode cX8_number 68 = .ok (.iload_n 3, 1) := by decide +kernel
theorem dX8_number_69 : decode cX8_number 69 = .ok (.ireturn, 1) := by decide +kernel
theorem dX8_mustSign_0 : decode cX8_mustSign 0 = .ok (.aload_n 0, 1) := by decide +kernel
theorem dX8_mustSign_1 : decode cX8_mustSign 1 = .ok (.aload_n 0, 1) := by decide +kernel
theorem dX8_mustSign_2 : decode cX8_mustSign 2 = .ok (.getfield 99, 3) := by decide +kernel
theorem dX8_mustSign_5 : decode cX8_mustSign 5 = .ok (.iconst 4, 1) := by decide +kernel
theorem dX8_mustSign_6 : decode cX8_mustSign 6 = .ok (.if_icmp .ne 15, 3) := by decide +kernel
theorem dX8_mustSign_9 : decode cX8_mustSign 9 = .ok (.aload_n 0, 1) := by decide +kernel
theorem dX8_mustSign_10 : decode cX8_mustSign 10 = .ok (.getfield 88, 3) := by decide +kernel
theorem dX8_mustSign_13 : decode cX8_mustSign 13 = .ok (.iload_n 1, 1) := by decide +kernel
theorem dX8_mustSign_14 : decode cX8_mustSign 14 = .ok (.if_icmp .ne 7, 3) := by decide +kernel
theorem dX8_mustSign_17 : decode cX8_mustSign 17 = .ok (.iconst 1, 1) := by decide +kernel
theorem dX8_mustSign_18 : decode cX8_mustSign 18 = .ok (.goto 4, 3) := by decide +kernel
theorem dX8_mustSign_21 : decode cX8_mustSign 21 = .ok (.iconst 0, 1) := by decide +kernel
theorem dX8_mustSign_22 : decode cX8_mustSign 22 = .ok (.invokevirtual 109, 3) := by decide +kernel
theorem dX8_mustSign_25 : decode cX8_mustSign 25 = .ok (.return_, 1) := by decide +kernel
theorem dX8_begin_0 : decode cX8_begin 0 = .ok (.aload_n 0, 1) := by decide +kernel
theorem dX8_begin_1 : decode cX8_begin 1 = .ok (.iconst 0, 1) := by decide +kernel
theorem dX8_begin_2 : decode cX8_begin 2 = .ok (.putfield 84, 3) := by decide +kernel
theorem dX8_begin_5 : decode cX8_begin 5 = .ok (.aload_n 0, 1) := by decide +kernel
theorem dX8_begin_6 : decode cX8_begin 6 = .ok (.iconst 0, 1) := by decide +kernel
theorem dX8_begin_7 : decode cX8_begin 7 = .ok (.putfield 75, 3) := by decide +kernel
theorem dX8_begin_10 : decode cX8_begin 10 = .ok (.aload_n 0, 1) := by decide +kernel
theorem dX8_begin_11 : decode cX8_begin 11 = .ok (.invokevirtual 106, 3) := by decide +kernel
theorem dX8_begin_14 : decode cX8_begin 14 = .ok (.return_, 1) := by decide +kernel
theorem dX8_failed_0 : decode cX8_failed 0 = .ok (.aload_n 0, 1) := by decide +kernel
theorem dX8_failed_1 : decode cX8_failed 1 = .ok (.getfield 75, 3) := by decide +kernel
theorem dX8_failed_4 : decode cX8_failed 4 = .ok (.ifCond .ne 16, 3) := by decide +kernel
theorem dX8_failed_7 : decode cX8_failed 7 = .ok (.aload_n 0, 1) := by decide +kernel
theorem dX8_failed_8 : decode cX8_failed 8 = .ok (.getfield 99, 3) := by decide +kernel
theorem dX8_failed_11 : decode cX8_failed 11 = .ok (.iconst 1, 1) := by decide +kernel
theorem dX8_failed_12 : decode cX8_failed 12 = .ok (.if_icmp .eq 8, 3) := by decide +kernel
theorem dX8_failed_15 : decode cX8_failed 15 = .ok (.aload_n 0, 1) := by decide +kernel
theorem dX8_failed_16 : decode cX8_failed 16 = .ok (.iconst 1, 1) := by decide +kernel
theorem dX8_failed_17 : decode cX8_failed 17 = .ok (.invokevirtual 102, 3) := by decide +kernel
theorem dX8_failed_20 : decode cX8_failed 20 = .ok (.aload_n 0, 1) := by decide +kernel
theorem dX8_failed_21 : decode cX8_failed 21 = .ok (.iconst 0, 1) := by decide +kernel
theorem dX8_failed_22 : decode cX8_failed 22 = .ok (.putfield 71, 3) := by decide +kernel
theorem dX8_failed_25 : decode cX8_failed 25 = .ok (.aload_n 0, 1) := by decide +kernel
theorem dX8_failed_26 : decode cX8_failed 26 = .ok (.aload_n 0, 1) := by decide +kernel
theorem dX8_failed_27 : decode cX8_failed 27 = .ok (.getfield 75, 3) := by decide +kernel
theorem dX8_failed_30 : decode cX8_failed 30 = .ok (.ifCond .le 10, 3) := by decide +kernel
theorem dX8_failed_33 : decode cX8_failed 33 = .ok (.aload_n 0, 1) := by decide +kernel
theorem dX8_failed_34 : decode cX8_failed 34 = .ok (.getfield 75, 3) := by decide +kernel
theorem dX8_failed_37 : decode cX8_failed 37 = .ok (.goto 7, 3) := by decide +kernel
theorem dX8_failed_40 : decode cX8_failed 40 = .ok (.aload_n 0, 1) := by decide +kernel
theorem dX8_failed_41 : decode cX8_failed 41 = .ok (.getfield 113, 3) := by decide +kernel
theorem dX8_failed_44 : decode cX8_failed 44 = .ok (.putfield 113, 3) := by decide +kernel
theorem dX8_failed_47 : decode cX8_failed 47 = .ok (.aload_n 0, 1) := by decide +kernel
theorem dX8_failed_48 : decode cX8_failed 48 = .ok (.getfield 75, 3) := by decide +kernel
theorem dX8_failed_51 : decode cX8_failed 51 = .ok (.ifCond .le 7, 3) := by decide +kernel
theorem dX8_failed_54 : decode cX8_failed 54 = .ok (.iconst 1, 1) := by decide +kernel
theorem dX8_failed_55 : decode cX8_failed 55 = .ok (.goto 4, 3) := by decide +kernel
theorem dX8_failed_58 : decode cX8_failed 58 = .ok (.iconst 0, 1) := by decide +kernel
theorem dX8_failed_59 : decode cX8_failed 59 = .ok (.ireturn, 1) := by decide +kernel
theorem dX8_fault_0 : decode cX8_fault 0 = .ok (.aload_n 0, 1) := by decide +kernel
theorem dX8_fault_1 : decode cX8_fault 1 = .ok (.iconst 0, 1) := by decide +kernel
theorem dX8_fault_2 : decode cX8_fault 2 = .ok (.putfield 44, 3) := by decide +kernel
theorem dX8_fault_5 : decode cX8_fault 5 = .ok (.aload_n 0, 1) := by decide +kernel
theorem dX8_fault_6 : decode cX8_fault 6 = .ok (.getfield 113, 3) := by decide +kernel
theorem dX8_fault_9 : decode cX8_fault 9 = .ok (.ireturn, 1) := by decide +kernel
theorem dX8_kindBy_0 : decode cX8_kindBy 0 = .ok (.iload_n 0, 1) := by decide +kernel
theorem dX8_kindBy_1 : decode cX8_kindBy 1 = .ok (.bipush 119, 2) := by decide +kernel
theorem dX8_kindBy_3 : decode cX8_kindBy 3 = .ok (.if_icmp .ne 7, 3) := by decide +kernel
theorem dX8_kindBy_6 : decode cX8_kindBy 6 = .ok (.iconst 1, 1) := by decide +kernel
theorem dX8_kindBy_7 : decode cX8_kindBy 7 = .ok (.goto 45, 3) := by decide +kernel
theorem dX8_kindBy_10 : decode cX8_kindBy 10 = .ok (.iload_n 0, 1) := by decide +kernel
theorem dX8_kindBy_11 : decode cX8_kindBy 11 = .ok (.bipush 107, 2) := by decide +kernel
theorem dX8_kindBy_13 : decode cX8_kindBy 13 = .ok (.if_icmp .ne 7, 3) := by decide +kernel
theorem dX8_kindBy_16 : decode cX8_kindBy 16 = .ok (.iconst 2, 1) := by decide +kernel
theorem dX8_kindBy_17 : decode cX8_kindBy 17 = .ok (.goto 35, 3) := by decide +kernel
theorem dX8_kindBy_20 : decode cX8_kindBy 20 = .ok (.iload_n 0, 1) := by decide +kernel
theorem dX8_kindBy_21 : decode cX8_kindBy 21 = .ok (.bipush 98, 2) := by decide +kernel
theorem dX8_kindBy_23 : decode cX8_kindBy 23 = .ok (.if_icmp .ne 7, 3) := by decide +kernel
theorem dX8_kindBy_26 : decode cX8_kindBy 26 = .ok (.iconst 3, 1) := by decide +kernel
theorem dX8_kindBy_27 : decode cX8_kindBy 27 = .ok (.goto 25, 3) := by decide +kernel
theorem dX8_kindBy_30 : decode cX8_kindBy 30 = .ok (.iload_n 0, 1) := by decide +kernel
theorem dX8_kindBy_31 : decode cX8_kindBy 31 = .ok (.bipush 115, 2) := by decide +kernel
theorem dX8_kindBy_33 : decode cX8_kindBy 33 = .ok (.if_icmp .ne 7, 3) := by decide +kernel
theorem dX8_kindBy_36 : decode cX8_kindBy 36 = .ok (.iconst 4, 1) := by decide +kernel
theorem dX8_kindBy_37 : decode cX8_kindBy 37 = .ok (.goto 15, 3) := by decide +kernel
theorem dX8_kindBy_40 : decode cX8_kindBy 40 = .ok (.iload_n 0, 1) := by decide +kernel
theorem dX8_kindBy_41 : decode cX8_kindBy 41 = .ok (.bipush 114, 2) := by decide +kernel
theorem dX8_kindBy_43 : decode cX8_kindBy 43 = .ok (.if_icmp .ne 7, 3) := by decide +kernel
theorem dX8_kindBy_46 : decode cX8_kindBy 46 = .ok (.iconst 5, 1) := by decide +kernel
theorem dX8_kindBy_47 : decode cX8_kindBy 47 = .ok (.goto 5, 3) := by decide +kernel
theorem dX8_kindBy_50 : decode cX8_kindBy 50 = .ok (.ldc 87, 2) := by decide +kernel
theorem dX8_kindBy_52 : decode cX8_kindBy 52 = .ok (.ireturn, 1) := by decide +kernel
theorem dX8_isSort_0 : decode cX8_isSort 0 = .ok (.aload_n 0, 1) := by decide +kernel
theorem dX8_isSort_1 : decode cX8_isSort 1 = .ok (.getfield 75, 3) := by decide +kernel
theorem dX8_isSort_4 : decode cX8_isSort 4 = .ok (.ifCond .ne 27, 3) := by decide +kernel
theorem dX8_isSort_7 : decode cX8_isSort 7 = .ok (.aload_n 0, 1) := by decide +kernel
theorem dX8_isSort_8 : decode cX8_isSort 8 = .ok (.getfield 99, 3) := by decide +kernel
theorem dX8_isSort_11 : decode cX8_isSort 11 = .ok (.iconst 2, 1) := by decide +kernel
theorem dX8_isSort_12 : decode cX8_isSort 12 = .ok (.if_icmp .ne 19, 3) := by decide +kernel
theorem dX8_isSort_15 : decode cX8_isSort 15 = .ok (.aload_n 0, 1) := by decide +kernel
theorem dX8_isSort_16 : decode cX8_isSort 16 = .ok (.getfield 88, 3) := by decide +kernel
theorem dX8_isSort_19 : decode cX8_isSort 19 = .ok (.invokestatic 116, 3) := by decide +kernel
theorem dX8_isSort_22 : decode cX8_isSort 22 = .ok (.ldc 87, 2) := by decide +kernel
theorem dX8_isSort_24 : decode cX8_isSort 24 = .ok (.if_icmp .eq 7, 3) := by decide +kernel
theorem dX8_isSort_27 : decode cX8_isSort 27 = .ok (.iconst 1, 1) := by decide +kernel
theorem dX8_isSort_28 : decode cX8_isSort 28 = .ok (.goto 4, 3) := by decide +kernel
theorem dX8_isSort_31 : decode cX8_isSort 31 = .ok (.iconst 0, 1) := by decide +kernel
theorem dX8_isSort_32 : decode cX8_isSort 32 = .ok (.ireturn, 1) := by decide +kernel
theorem dX8_readThing_0 : decode cX8_readThing 0 = .ok (.aload_n 0, 1) := by decide +kernel
theorem dX8_readThing_1 : decode cX8_readThing 1 = .ok (.getfield 22, 3) := by decide +kernel
theorem dX8_readThing_4 : decode cX8_readThing 4 = .ok (.iconst 2, 1) := by decide +kernel
theorem dX8_readThing_5 : decode cX8_readThing 5 = .ok (.iaload, 1) := by decide +kernel
theorem dX8_readThing_6 : decode cX8_readThing 6 = .ok (.iconst 5, 1) := by decide +kernel
theorem dX8_readThing_7 : decode cX8_readThing 7 = .ok (.if_icmp .ne 8, 3) := by decide +kernel
theorem dX8_readThing_10 : decode cX8_readThing 10 = .ok (.aload_n 0, 1) := by decide +kernel
theorem dX8_readThing_11 : decode cX8_readThing 11 = .ok (.iconst 3, 1) := by decide +kernel
theorem dX8_readThing_12 : decode cX8_readThing 12 = .ok (.invokevirtual 102, 3) := by decide +kernel
theorem dX8_readThing_15 : decode cX8_readThing 15 = .ok (.aload_n 0, 1) := by decide +kernel
theorem dX8_readThing_16 : decode cX8_readThing 16 = .ok (.aload_n 0, 1) := by decide +kernel
theorem dX8_readThing_17 : decode cX8_readThing 17 = .ok (.bipush 116, 2) := by decide +kernel
theorem dX8_readThing_19 : decode cX8_readThing 19 = .ok (.invokevirtual 119, 3) := by decide +kernel
theorem dX8_readThing_22 : decode cX8_readThing 22 = .ok (.invokevirtual 109, 3) := by decide +kernel
theorem dX8_readThing_25 : decode cX8_readThing 25 = .ok (.aload_n 0, 1) := by decide +kernel
theorem dX8_readThing_26 : decode cX8_readThing 26 = .ok (.iconst 0, 1) := by decide +kernel
theorem dX8_readThing_27 : decode cX8_readThing 27 = .ok (.aload_n 0, 1) := by decide +kernel
theorem dX8_readThing_28 : decode cX8_readThing 28 = .ok (.getfield 22, 3) := by decide +kernel
theorem dX8_readThing_31 : decode cX8_readThing 31 = .ok (.iconst 0, 1) := by decide +kernel
theorem dX8_readThing_32 : decode cX8_readThing 32 = .ok (.iaload, 1) := by decide +kernel
theorem dX8_readThing_33 : decode cX8_readThing 33 = .ok (.iconst 1, 1) := by decide +kernel
theorem dX8_readThing_34 : decode cX8_readThing 34 = .ok (.isub, 1) := by decide +kernel
theorem dX8_readThing_35 : decode cX8_readThing 35 = .ok (.invokevirtual 122, 3) := by decide +kernel
theorem dX8_readThing_38 : decode cX8_readThing 38 = .ok (.istore_n 1, 1) := by decide +kernel
theorem dX8_readThing_39 : decode cX8_readThing 39 = .ok (.aload_n 0, 1) := by decide +kernel
theorem dX8_readThing_40 : decode cX8_readThing 40 = .ok (.bipush 44, 2) := by decide +kernel
theorem dX8_readThing_42 : decode cX8_readThing 42 = .ok (.invokevirtual 126, 3) := by decide +kernel
theorem dX8_readThing_45 : decode cX8_readThing 45 = .ok (.aload_n 0, 1) := by decide +kernel
theorem dX8_readThing_46 : decode cX8_readThing 46 = .ok (.iconst 0, 1) := by decide +kernel
theorem dX8_readThing_47 : decode cX8_readThing 47 = .ok (.bipush 15, 2) := by decide +kernel
theorem dX8_readThing_49 : decode cX8_readThing 49 = .ok (.invokevirtual 122, 3) := by decide +kernel
theorem dX8_readThing_52 : decode cX8_readThing 52 = .ok (.istore_n 2, 1) := by decide +kernel
theorem dX8_readThing_53 : decode cX8_readThing 53 = .ok (.aload_n 0, 1) := by decide +kernel
theorem dX8_readThing_54 : decode cX8_readThing 54 = .ok (.bipush 59, 2) := by decide +kernel
theorem dX8_readThing_56 : decode cX8_readThing 56 = .ok (.invokevirtual 126, 3) := by decide +kernel
theorem dX8_readThing_59 : decode cX8_readThing 59 = .ok (.aload_n 0, 1) := by decide +kernel
theorem dX8_readThing_60 : decode cX8_readThing 60 = .ok (.getfield 75, 3) := by decide +kernel
theorem dX8_readThing_63 : decode cX8_readThing 63 = .ok (.ifCond .ne 49, 3) := by decide +kernel
theorem dX8_readThing_66 : decode cX8_readThing 66 = .ok (.aload_n 0, 1) := by decide +kernel
theorem dX8_readThing_67 : decode cX8_readThing 67 = .ok (.getfield 22, 3) := by decide +kernel
theorem dX8_readThing_70 : decode cX8_readThing 70 = .ok (.bipush 6, 2) := by decide +kernel
theorem dX8_readThing_72 : decode cX8_readThing 72 = .ok (.iconst 2, 1) := by decide +kernel
theorem dX8_readThing_73 : decode cX8_readThing 73 = .ok (.aload_n 0, 1) := by decide +kernel
theorem dX8_readThing_74 : decode cX8_readThing 74 = .ok (.getfield 22, 3) := by decide +kernel
theorem dX8_readThing_77 : decode cX8_readThing 77 = .ok (.iconst 2, 1) := by decide +kernel
theorem dX8_readThing_78 : decode cX8_readThing 78 = .ok (.iaload, 1) := by decide +kernel
theorem dX8_readThing_79 : decode cX8_readThing 79 = .ok (.imul, 1) := by decide +kernel
theorem dX8_readThing_80 : decode cX8_readThing 80 = .ok (.iadd, 1) := by decide +kernel
theorem dX8_readThing_81 : decode cX8_readThing 81 = .ok (.iload_n 1, 1) := by decide +kernel
theorem dX8_readThing_82 : decode cX8_readThing 82 = .ok (.iastore, 1) := by decide +kernel
theorem dX8_readThing_83 : decode cX8_readThing 83 = .ok (.aload_n 0, 1) := by decide +kernel
theorem dX8_readThing_84 : decode cX8_readThing 84 = .ok (.getfield 22, 3) := by decide +kernel
theorem dX8_readThing_87 : decode cX8_readThing 87 = .ok (.bipush 6, 2) := by decide +kernel
theorem dX8_readThing_89 : decode cX8_readThing 89 = .ok (.iconst 2, 1) := by decide +kernel
theorem dX8_readThing_90 : decode cX8_readThing 90 = .ok (.aload_n 0, 1) := by decide +kernel
theorem dX8_readThing_91 : decode cX8_readThing 91 = .ok (.getfield 22, 3) := by decide +kernel
theorem dX8_readThing_94 : decode cX8_readThing 94 = .ok (.iconst 2, 1) := by decide +kernel
theorem dX8_readThing_95 : decode cX8_readThing 95 = .ok (.iaload, 1) := by decide +kernel
theorem dX8_readThing_96 : decode cX8_readThing 96 = .ok (.imul, 1) := by decide +kernel
theorem dX8_readThing_97 : decode cX8_readThing 97 = .ok (.iadd, 1) := by decide +kernel
theorem dX8_readThing_98 : decode cX8_readThing 98 = .ok (.iconst 1, 1) := by decide +kernel
theorem dX8_readThing_99 : decode cX8_readThing 99 = .ok (.iadd, 1) := by decide +kernel
theorem dX8_readThing_100 : decode cX8_readThing 100 = .ok (.iload_n 2, 1) := by decide +kernel
theorem dX8_readThing_101 : decode cX8_readThing 101 = .ok (.iastore, 1) := by decide +kernel
theorem dX8_readThing_102 : decode cX8_readThing 102 = .ok (.aload_n 0, 1) := by decide +kernel
theorem dX8_readThing_103 : decode cX8_readThing 103 = .ok (.getfield 22, 3) := by decide +kernel
theorem dX8_readThing_106 : decode cX8_readThing 106 = .ok (.iconst 2, 1) := by decide +kernel
theorem dX8_readThing_107 : decode cX8_readThing 107 = .ok (.dup2, 1) := by decide +kernel
theorem dX8_readThing_108 : decode cX8_readThing 108 = .ok (.iaload, 1) := by decide +kernel
theorem dX8_readThing_109 : decode cX8_readThing 109 = .ok (.iconst 1, 1) := by decide +kernel
theorem dX8_readThing_110 : decode cX8_readThing 110 = .ok (.iadd, 1) := by decide +kernel
theorem dX8_readThing_111 : decode cX8_readThing 111 = .ok (.iastore, 1) := by decide +kernel
theorem dX8_readThing_112 : decode cX8_readThing 112 = .ok (.return_, 1) := by decide +kernel
theorem dX8_readPerson_0 : decode cX8_readPerson 0 = .ok (.aload_n 0, 1) := by decide +kernel
theorem dX8_readPerson_1 : decode cX8_readPerson 1 = .ok (.getfield 88, 3) := by decide +kernel
theorem dX8_readPerson_4 : decode cX8_readPerson 4 = .ok (.invokestatic 116, 3) := by decide +kernel
theorem dX8_readPerson_7 : decode cX8_readPerson 7 = .ok (.istore_n 1, 1) := by decide +kernel
theorem dX8_readPerson_8 : decode cX8_readPerson 8 = .ok (.aload_n 0, 1) := by decide +kernel
theorem dX8_readPerson_9 : decode cX8_readPerson 9 = .ok (.getfield 22, 3) := by decide +kernel
theorem dX8_readPerson_12 : decode cX8_readPerson 12 = .ok (.iconst 3, 1) := by decide +kernel
theorem dX8_readPerson_13 : decode cX8_readPerson 13 = .ok (.iaload, 1) := by decide +kernel
theorem dX8_readPerson_14 : decode cX8_readPerson 14 = .ok (.bipush 7, 2) := by decide +kernel
theorem dX8_readPerson_16 : decode cX8_readPerson 16 = .ok (.if_icmp .ne 8, 3) := by decide +kernel
theorem dX8_readPerson_19 : decode cX8_readPerson 19 = .ok (.aload_n 0, 1) := by decide +kernel
theorem dX8_readPerson_20 : decode cX8_readPerson 20 = .ok (.iconst 3, 1) := by decide +kernel
theorem dX8_readPerson_21 : decode cX8_readPerson 21 = .ok (.invokevirtual 102, 3) := by decide +kernel
theorem dX8_readPerson_24 : decode cX8_readPerson 24 = .ok (.aload_n 0, 1) := by decide +kernel
theorem dX8_readPerson_25 : decode cX8_readPerson 25 = .ok (.iconst 1, 1) := by decide +kernel
theorem dX8_readPerson_26 : decode cX8_readPerson 26 = .ok (.invokevirtual 109, 3) := by decide +kernel
theorem dX8_readPerson_29 : decode cX8_readPerson 29 = .ok (.aload_n 0, 1) := by decide +kernel
theorem dX8_readPerson_30 : decode cX8_readPerson 30 = .ok (.iconst 0, 1) := by decide +kernel
theorem dX8_readPerson_31 : decode cX8_readPerson 31 = .ok (.aload_n 0, 1) := by decide +kernel
theorem dX8_readPerson_32 : decode cX8_readPerson 32 = .ok (.getfield 22, 3) := by decide +kernel
theorem dX8_readPerson_35 : decode cX8_readPerson 35 = .ok (.iconst 2, 1) := by decide +kernel
theorem dX8_readPerson_36 : decode cX8_readPerson 36 = .ok (.iaload, 1) := by decide +kernel
theorem dX8_readPerson_37 : decode cX8_readPerson 37 = .ok (.iconst 1, 1) := by decide +kernel
theorem dX8_readPerson_38 : decode cX8_readPerson 38 = .ok (.isub, 1) := by decide +kernel
theorem dX8_readPerson_39 : decode cX8_readPerson 39 = .ok (.invokevirtual 122, 3) := by decide +kernel
theorem dX8_readPerson_42 : decode cX8_readPerson 42 = .ok (.istore_n 2, 1) := by decide +kernel
theorem dX8_readPerson_43 : decode cX8_readPerson 43 = .ok (.aload_n 0, 1) := by decide +kernel
theorem dX8_readPerson_44 : decode cX8_readPerson 44 = .ok (.bipush 44, 2) := by decide +kernel
theorem dX8_readPerson_46 : decode cX8_readPerson 46 = .ok (.invokevirtual 126, 3) := by decide +kernel
theorem dX8_readPerson_49 : decode cX8_readPerson 49 = .ok (.aload_n 0, 1) := by decide +kernel
theorem dX8_readPerson_50 : decode cX8_readPerson 50 = .ok (.iconst 0, 1) := by decide +kernel
theorem dX8_readPerson_51 : decode cX8_readPerson 51 = .ok (.aload_n 0, 1) := by decide +kernel
theorem dX8_readPerson_52 : decode cX8_readPerson 52 = .ok (.getfield 22, 3) := by decide +kernel
theorem dX8_readPerson_55 : decode cX8_readPerson 55 = .ok (.iconst 0, 1) := by decide +kernel
theorem dX8_readPerson_56 : decode cX8_readPerson 56 = .ok (.iaload, 1) := by decide +kernel
theorem dX8_readPerson_57 : decode cX8_readPerson 57 = .ok (.iconst 1, 1) := by decide +kernel
theorem dX8_readPerson_58 : decode cX8_readPerson 58 = .ok (.isub, 1) := by decide +kernel
theorem dX8_readPerson_59 : decode cX8_readPerson 59 = .ok (.invokevirtual 122, 3) := by decide +kernel
theorem dX8_readPerson_62 : decode cX8_readPerson 62 = .ok (.istore_n 3, 1) := by decide +kernel
theorem dX8_readPerson_63 : decode cX8_readPerson 63 = .ok (.aload_n 0, 1) := by decide +kernel
theorem dX8_readPerson_64 : decode cX8_readPerson 64 = .ok (.bipush 44, 2) := by decide +kernel
theorem dX8_readPerson_66 : decode cX8_readPerson 66 = .ok (.invokevirtual 126, 3) := by decide +kernel
theorem dX8_readPerson_69 : decode cX8_readPerson 69 = .ok (.aload_n 0, 1) := by decide +kernel
theorem dX8_readPerson_70 : decode cX8_readPerson 70 = .ok (.iconst 0, 1) := by decide +kernel
theorem dX8_readPerson_71 : decode cX8_readPerson 71 = .ok (.bipush 9, 2) := by decide +kernel
theorem dX8_readPerson_73 : decode cX8_readPerson 73 = .ok (.invokevirtual 122, 3) := by decide +kernel
theorem dX8_readPerson_76 : decode cX8_readPerson 76 = .ok (.istore 4, 2) := by decide +kernel
theorem dX8_readPerson_78 : decode cX8_readPerson 78 = .ok (.aload_n 0, 1) := by decide +kernel
theorem dX8_readPerson_79 : decode cX8_readPerson 79 = .ok (.bipush 59, 2) := by decide +kernel
theorem dX8_readPerson_81 : decode cX8_readPerson 81 = .ok (.invokevirtual 126, 3) := by decide +kernel
theorem dX8_readPerson_84 : decode cX8_readPerson 84 = .ok (.aload_n 0, 1) := by decide +kernel
theorem dX8_readPerson_85 : decode cX8_readPerson 85 = .ok (.getfield 75, 3) := by decide +kernel
theorem dX8_readPerson_88 : decode cX8_readPerson 88 = .ok (.ifCond .ne 66, 3) := by decide +kernel
theorem dX8_readPerson_91 : decode cX8_readPerson 91 = .ok (.bipush 16, 2) := by decide +kernel
theorem dX8_readPerson_93 : decode cX8_readPerson 93 = .ok (.bipush 6, 2) := by decide +kernel
theorem dX8_readPerson_95 : decode cX8_readPerson 95 = .ok (.aload_n 0, 1) := by decide +kernel
theorem dX8_readPerson_96 : decode cX8_readPerson 96 = .ok (.getfield 22, 3) := by decide +kernel
theorem dX8_readPerson_99 : decode cX8_readPerson 99 = .ok (.iconst 3, 1) := by decide +kernel
theorem dX8_readPerson_100 : decode cX8_readPerson 100 = .ok (.iaload, 1) := by decide +kernel
theorem dX8_readPerson_101 : decode cX8_readPerson 101 = .ok (.imul, 1) := by decide +kernel
theorem dX8_readPerson_102 : decode cX8_readPerson 102 = .ok (.iadd, 1) := by decide +kernel
theorem dX8_readPerson_103 : decode cX8_readPerson 103 = .ok (.istore 5, 2) := by decide +kernel
theorem dX8_readPerson_105 : decode cX8_readPerson 105 = .ok (.aload_n 0, 1) := by decide +kernel
theorem dX8_readPerson_106 : decode cX8_readPerson 106 = .ok (.getfield 22, 3) := by decide +kernel
theorem dX8_readPerson_109 : decode cX8_readPerson 109 = .ok (.iload 5, 2) := by decide +kernel
theorem dX8_readPerson_111 : decode cX8_readPerson 111 = .ok (.iload_n 1, 1) := by decide +kernel
theorem dX8_readPerson_112 : decode cX8_readPerson 112 = .ok (.iastore, 1) := by decide +kernel
theorem dX8_readPerson_113 : decode cX8_readPerson 113 = .ok (.aload_n 0, 1) := by decide +kernel
theorem dX8_readPerson_114 : decode cX8_readPerson 114 = .ok (.getfield 22, 3) := by decide +kernel
theorem dX8_readPerson_117 : decode cX8_readPerson 117 = .ok (.iload 5, 2) := by decide +kernel
theorem dX8_readPerson_119 : decode cX8_readPerson 119 = .ok (.iconst 1, 1) := by decide +kernel
theorem dX8_readPerson_120 : decode cX8_readPerson 120 = .ok (.iadd, 1) := by decide +kernel
theorem dX8_readPerson_121 : decode cX8_readPerson 121 = .ok (.iload_n 2, 1) := by decide +kernel
theorem dX8_readPerson_122 : decode cX8_readPerson 122 = .ok (.iastore, 1) := by decide +kernel
theorem dX8_readPerson_123 : decode cX8_readPerson 123 = .ok (.aload_n 0, 1) := by decide +kernel
theorem dX8_readPerson_124 : decode cX8_readPerson 124 = .ok (.getfield 22, 3) := by decide +kernel
theorem dX8_readPerson_127 : decode cX8_readPerson 127 = .ok (.iload 5, 2) := by decide +kernel
theorem dX8_readPerson_129 : decode cX8_readPerson 129 = .ok (.iconst 2, 1) := by decide +kernel
theorem dX8_readPerson_130 : decode cX8_readPerson 130 = .ok (.iadd, 1) := by decide +kernel
theorem dX8_readPerson_131 : decode cX8_readPerson 131 = .ok (.iload_n 3, 1) := by decide +kernel
theorem dX8_readPerson_132 : decode cX8_readPerson 132 = .ok (.iastore, 1) := by decide +kernel
theorem dX8_readPerson_133 : decode cX8_readPerson 133 = .ok (.aload_n 0, 1) := by decide +kernel
theorem dX8_readPerson_134 : decode cX8_readPerson 134 = .ok (.getfield 22, 3) := by decide +kernel
theorem dX8_readPerson_137 : decode cX8_readPerson 137 = .ok (.iload 5, 2) := by decide +kernel
theorem dX8_readPerson_139 : decode cX8_readPerson 139 = .ok (.iconst 3, 1) := by decide +kernel
theorem dX8_readPerson_140 : decode cX8_readPerson 140 = .ok (.iadd, 1) := by decide +kernel
theorem dX8_readPerson_141 : decode cX8_readPerson 141 = .ok (.iload 4, 2) := by decide +kernel
theorem dX8_readPerson_143 : decode cX8_readPerson 143 = .ok (.iastore, 1) := by decide +kernel
theorem dX8_readPerson_144 : decode cX8_readPerson 144 = .ok (.aload_n 0, 1) := by decide +kernel
theorem dX8_readPerson_145 : decode cX8_readPerson 145 = .ok (.getfield 22, 3) := by decide +kernel
theorem dX8_readPerson_148 : decode cX8_readPerson 148 = .ok (.iconst 3, 1) := by decide +kernel
theorem dX8_readPerson_149 : decode cX8_readPerson 149 = .ok (.dup2, 1) := by decide +kernel
theorem dX8_readPerson_150 : decode cX8_readPerson 150 = .ok (.iaload, 1) := by decide +kernel
theorem dX8_readPerson_151 : decode cX8_readPerson 151 = .ok (.iconst 1, 1) := by decide +kernel
theorem dX8_readPerson_152 : decode cX8_readPerson 152 = .ok (.iadd, 1) := by decide +kernel
theorem dX8_readPerson_153 : decode cX8_readPerson 153 = .ok (.iastore, 1) := by decide +kernel
theorem dX8_readPerson_154 : decode cX8_readPerson 154 = .ok (.return_, 1) := by decide +kernel
theorem dX8_land_0 : decode cX8_land 0 = .ok (.aload_n 0, 1) := by decide +kernel
theorem dX8_land_1 : decode cX8_land 1 = .ok (.iconst 0, 1) := by decide +kernel
theorem dX8_land_2 : decode cX8_land 2 = .ok (.putfield 44, 3) := by decide +kernel
theorem dX8_land_5 : decode cX8_land 5 = .ok (.aload_n 0, 1) := by decide +kernel
theorem dX8_land_6 : decode cX8_land 6 = .ok (.invokevirtual 129, 3) := by decide +kernel
theorem dX8_land_9 : decode cX8_land 9 = .ok (.iconst 0, 1) := by decide +kernel
theorem dX8_land_10 : decode cX8_land 10 = .ok (.istore_n 1, 1) := by decide +kernel
theorem dX8_land_11 : decode cX8_land 11 = .ok (.iload_n 1, 1) := by decide +kernel
theorem dX8_land_12 : decode cX8_land 12 = .ok (.bipush 58, 2) := by decide +kernel
theorem dX8_land_14 : decode cX8_land 14 = .ok (.if_icmp .ge 16, 3) := by decide +kernel
theorem dX8_land_17 : decode cX8_land 17 = .ok (.aload_n 0, 1) := by decide +kernel
theorem dX8_land_18 : decode cX8_land 18 = .ok (.getfield 22, 3) := by decide +kernel
theorem dX8_land_21 : decode cX8_land 21 = .ok (.iload_n 1, 1) := by decide +kernel
theorem dX8_land_22 : decode cX8_land 22 = .ok (.iconst 0, 1) := by decide +kernel
theorem dX8_land_23 : decode cX8_land 23 = .ok (.iastore, 1) := by decide +kernel
theorem dX8_land_24 : decode cX8_land 24 = .ok (.iinc 1 1, 3) := by decide +kernel
theorem dX8_land_27 : decode cX8_land 27 = .ok (.goto (-16), 3) := by decide +kernel
theorem dX8_land_30 : decode cX8_land 30 = .ok (.aload_n 0, 1) := by decide +kernel
theorem dX8_land_31 : decode cX8_land 31 = .ok (.aload_n 0, 1) := by decide +kernel
theorem dX8_land_32 : decode cX8_land 32 = .ok (.bipush 110, 2) := by decide +kernel
theorem dX8_land_34 : decode cX8_land 34 = .ok (.invokevirtual 119, 3) := by decide +kernel
theorem dX8_land_37 : decode cX8_land 37 = .ok (.invokevirtual 109, 3) := by decide +kernel
theorem dX8_land_40 : decode cX8_land 40 = .ok (.aload_n 0, 1) := by decide +kernel
theorem dX8_land_41 : decode cX8_land 41 = .ok (.getfield 22, 3) := by decide +kernel
theorem dX8_land_44 : decode cX8_land 44 = .ok (.iconst 0, 1) := by decide +kernel
theorem dX8_land_45 : decode cX8_land 45 = .ok (.aload_n 0, 1) := by decide +kernel
theorem dX8_land_46 : decode cX8_land 46 = .ok (.iconst 2, 1) := by decide +kernel
theorem dX8_land_47 : decode cX8_land 47 = .ok (.bipush 16, 2) := by decide +kernel
theorem dX8_land_49 : decode cX8_land 49 = .ok (.invokevirtual 122, 3) := by decide +kernel
theorem dX8_land_52 : decode cX8_land 52 = .ok (.iastore, 1) := by decide +kernel
theorem dX8_land_53 : decode cX8_land 53 = .ok (.aload_n 0, 1) := by decide +kernel
theorem dX8_land_54 : decode cX8_land 54 = .ok (.bipush 44, 2) := by decide +kernel
theorem dX8_land_56 : decode cX8_land 56 = .ok (.invokevirtual 126, 3) := by decide +kernel
theorem dX8_land_59 : decode cX8_land 59 = .ok (.aload_n 0, 1) := by decide +kernel
theorem dX8_land_60 : decode cX8_land 60 = .ok (.getfield 22, 3) := by decide +kernel
theorem dX8_land_63 : decode cX8_land 63 = .ok (.iconst 1, 1) := by decide +kernel
theorem dX8_land_64 : decode cX8_land 64 = .ok (.aload_n 0, 1) := by decide +kernel
theorem dX8_land_65 : decode cX8_land 65 = .ok (.iconst 0, 1) := by decide +kernel
theorem dX8_land_66 : decode cX8_land 66 = .ok (.bipush 9, 2) := by decide +kernel
theorem dX8_land_68 : decode cX8_land 68 = .ok (.invokevirtual 122, 3) := by decide +kernel
theorem dX8_land_71 : decode cX8_land 71 = .ok (.iastore, 1) := by decide +kernel
theorem dX8_land_72 : decode cX8_land 72 = .ok (.aload_n 0, 1) := by decide +kernel
theorem dX8_land_73 : decode cX8_land 73 = .ok (.bipush 59, 2) := by decide +kernel
theorem dX8_land_75 : decode cX8_land 75 = .ok (.invokevirtual 126, 3) := by decide +kernel
theorem dX8_land_78 : decode cX8_land 78 = .ok (.aload_n 0, 1) := by decide +kernel
theorem dX8_land_79 : decode cX8_land 79 = .ok (.bipush 116, 2) := by decide +kernel
theorem dX8_land_81 : decode cX8_land 81 = .ok (.invokevirtual 119, 3) := by decide +kernel
theorem dX8_land_84 : decode cX8_land 84 = .ok (.ifCond .ne 8, 3) := by decide +kernel
theorem dX8_land_87 : decode cX8_land 87 = .ok (.aload_n 0, 1) := by decide +kernel
theorem dX8_land_88 : decode cX8_land 88 = .ok (.iconst 1, 1) := by decide +kernel
theorem dX8_land_89 : decode cX8_land 89 = .ok (.invokevirtual 102, 3) := by decide +kernel
theorem dX8_land_92 : decode cX8_land 92 = .ok (.aload_n 0, 1) := by decide +kernel
theorem dX8_land_93 : decode cX8_land 93 = .ok (.bipush 116, 2) := by decide +kernel
theorem dX8_land_95 : decode cX8_land 95 = .ok (.invokevirtual 119, 3) := by decide +kernel
theorem dX8_land_98 : decode cX8_land 98 = .ok (.ifCond .eq 10, 3) := by decide +kernel
theorem dX8_land_101 : decode cX8_land 101 = .ok (.aload_n 0, 1) := by decide +kernel
theorem dX8_land_102 : decode cX8_land 102 = .ok (.invokevirtual 132, 3) := by decide +kernel
theorem dX8_land_105 : decode cX8_land 105 = .ok (.goto (-13), 3) := by decide +kernel
theorem dX8_land_108 : decode cX8_land 108 = .ok (.aload_n 0, 1) := by decide +kernel
theorem dX8_land_109 : decode cX8_land 109 = .ok (.invokevirtual 135, 3) := by decide +kernel
theorem dX8_land_112 : decode cX8_land 112 = .ok (.ifCond .ne 8, 3) := by decide +kernel
theorem dX8_land_115 : decode cX8_land 115 = .ok (.aload_n 0, 1) := by decide +kernel
theorem dX8_land_116 : decode cX8_land 116 = .ok (.iconst 1, 1) := by decide +kernel
theorem dX8_land_117 : decode cX8_land 117 = .ok (.invokevirtual 102, 3) := by decide +kernel
theorem dX8_land_120 : decode cX8_land 120 = .ok (.aload_n 0, 1) := by decide +kernel
theorem dX8_land_121 : decode cX8_land 121 = .ok (.invokevirtual 135, 3) := by decide +kernel
theorem dX8_land_124 : decode cX8_land 124 = .ok (.ifCond .eq 10, 3) := by decide +kernel
theorem dX8_land_127 : decode cX8_land 127 = .ok (.aload_n 0, 1) := by decide +kernel
theorem dX8_land_128 : decode cX8_land 128 = .ok (.invokevirtual 139, 3) := by decide +kernel
theorem dX8_land_131 : decode cX8_land 131 = .ok (.goto (-11), 3) := by decide +kernel
theorem dX8_land_134 : decode cX8_land 134 = .ok (.aload_n 0, 1) := by decide +kernel
theorem dX8_land_135 : decode cX8_land 135 = .ok (.invokevirtual 142, 3) := by decide +kernel
theorem dX8_land_138 : decode cX8_land 138 = .ok (.ifCond .eq 11, 3) := by decide +kernel
theorem dX8_land_141 : decode cX8_land 141 = .ok (.ldc 145, 2) := by decide +kernel
theorem dX8_land_143 : decode cX8_land 143 = .ok (.aload_n 0, 1) := by decide +kernel
theorem dX8_land_144 : decode cX8_land 144 = .ok (.getfield 81, 3) := by decide +kernel
theorem dX8_land_147 : decode cX8_land 147 = .ok (.isub, 1) := by decide +kernel
theorem dX8_land_148 : decode cX8_land 148 = .ok (.ireturn, 1) := by decide +kernel
theorem dX8_land_149 : decode cX8_land 149 = .ok (.aload_n 0, 1) := by decide +kernel
theorem dX8_land_150 : decode cX8_land 150 = .ok (.iconst 0, 1) := by decide +kernel
theorem dX8_land_151 : decode cX8_land 151 = .ok (.putfield 146, 3) := by decide +kernel
theorem dX8_land_154 : decode cX8_land 154 = .ok (.iconst 0, 1) := by decide +kernel
theorem dX8_land_155 : decode cX8_land 155 = .ok (.istore_n 1, 1) := by decide +kernel
theorem dX8_land_156 : decode cX8_land 156 = .ok (.iload_n 1, 1) := by decide +kernel
theorem dX8_land_157 : decode cX8_land 157 = .ok (.bipush 58, 2) := by decide +kernel
theorem dX8_land_159 : decode cX8_land 159 = .ok (.if_icmp .ge 21, 3) := by decide +kernel
theorem dX8_land_162 : decode cX8_land 162 = .ok (.aload_n 0, 1) := by decide +kernel
theorem dX8_land_163 : decode cX8_land 163 = .ok (.getfield 19, 3) := by decide +kernel
theorem dX8_land_166 : decode cX8_land 166 = .ok (.iload_n 1, 1) := by decide +kernel
theorem dX8_land_167 : decode cX8_land 167 = .ok (.aload_n 0, 1) := by decide +kernel
theorem dX8_land_168 : decode cX8_land 168 = .ok (.getfield 22, 3) := by decide +kernel
theorem dX8_land_171 : decode cX8_land 171 = .ok (.iload_n 1, 1) := by decide +kernel
theorem dX8_land_172 : decode cX8_land 172 = .ok (.iaload, 1) := by decide +kernel
theorem dX8_land_173 : decode cX8_land 173 = .ok (.iastore, 1) := by decide +kernel
theorem dX8_land_174 : decode cX8_land 174 = .ok (.iinc 1 1, 3) := by decide +kernel
theorem dX8_land_177 : decode cX8_land 177 = .ok (.goto (-21), 3) := by decide +kernel
theorem dX8_land_180 : decode cX8_land 180 = .ok (.aload_n 0, 1) := by decide +kernel
theorem dX8_land_181 : decode cX8_land 181 = .ok (.getfield 19, 3) := by decide +kernel
theorem dX8_land_184 : decode cX8_land 184 = .ok (.iconst 3, 1) := by decide +kernel
theorem dX8_land_185 : decode cX8_land 185 = .ok (.iaload, 1) := by decide +kernel
theorem dX8_land_186 : decode cX8_land 186 = .ok (.ireturn, 1) := by decide +kernel
theorem dX8_isThere_0 : decode cX8_isThere 0 = .ok (.aload_n 0, 1) := by decide +kernel
theorem dX8_isThere_1 : decode cX8_isThere 1 = .ok (.getfield 19, 3) := by decide +kernel
theorem dX8_isThere_4 : decode cX8_isThere 4 = .ok (.iconst 0, 1) := by decide +kernel
theorem dX8_isThere_5 : decode cX8_isThere 5 = .ok (.iaload, 1) := by decide +kernel
theorem dX8_isThere_6 : decode cX8_isThere 6 = .ok (.ifCond .le 7, 3) := by decide +kernel
theorem dX8_isThere_9 : decode cX8_isThere 9 = .ok (.iconst 1, 1) := by decide +kernel
theorem dX8_isThere_10 : decode cX8_isThere 10 = .ok (.goto 4, 3) := by decide +kernel
theorem dX8_isThere_13 : decode cX8_isThere 13 = .ok (.iconst 0, 1) := by decide +kernel
theorem dX8_isThere_14 : decode cX8_isThere 14 = .ok (.ireturn, 1) := by decide +kernel
theorem dX8_isPerson_0 : decode cX8_isPerson 0 = .ok (.iload_n 1, 1) := by decide +kernel
theorem dX8_isPerson_1 : decode cX8_isPerson 1 = .ok (.i2l, 1) := by decide +kernel
theorem dX8_isPerson_2 : decode cX8_isPerson 2 = .ok (.lconst 0, 1) := by decide +kernel
theorem dX8_isPerson_3 : decode cX8_isPerson 3 = .ok (.aload_n 0, 1) := by decide +kernel
theorem dX8_isPerson_4 : decode cX8_isPerson 4 = .ok (.getfield 19, 3) := by decide +kernel
theorem dX8_isPerson_7 : decode cX8_isPerson 7 = .ok (.iconst 3, 1) := by decide +kernel
theorem dX8_isPerson_8 : decode cX8_isPerson 8 = .ok (.iaload, 1) := by decide +kernel
theorem dX8_isPerson_9 : decode cX8_isPerson 9 = .ok (.iconst 1, 1) := by decide +kernel
theorem dX8_isPerson_10 : decode cX8_isPerson 10 = .ok (.isub, 1) := by decide +kernel
theorem dX8_isPerson_11 : decode cX8_isPerson 11 = .ok (.i2l, 1) := by decide +kernel
theorem dX8_isPerson_12 : decode cX8_isPerson 12 = .ok (.invokestatic 54, 3) := by decide +kernel
theorem dX8_isPerson_15 : decode cX8_isPerson 15 = .ok (.ireturn, 1) := by decide +kernel
theorem dX8_isThing_0 : decode cX8_isThing 0 = .ok (.iload_n 1, 1) := by decide +kernel
theorem dX8_isThing_1 : decode cX8_isThing 1 = .ok (.i2l, 1) := by decide +kernel
theorem dX8_isThing_2 : decode cX8_isThing 2 = .ok (.lconst 0, 1) := by decide +kernel
theorem dX8_isThing_3 : decode cX8_isThing 3 = .ok (.aload_n 0, 1) := by decide +kernel
theorem dX8_isThing_4 : decode cX8_isThing 4 = .ok (.getfield 19, 3) := by decide +kernel
theorem dX8_isThing_7 : decode cX8_isThing 7 = .ok (.iconst 2, 1) := by decide +kernel
theorem dX8_isThing_8 : decode cX8_isThing 8 = .ok (.iaload, 1) := by decide +kernel
theorem dX8_isThing_9 : decode cX8_isThing 9 = .ok (.iconst 1, 1) := by decide +kernel
theorem dX8_isThing_10 : decode cX8_isThing 10 = .ok (.isub, 1) := by decide +kernel
theorem dX8_isThing_11 : decode cX8_isThing 11 = .ok (.i2l, 1) := by decide +kernel
theorem dX8_isThing_12 : decode cX8_isThing 12 = .ok (.invokestatic 54, 3) := by decide +kernel
theorem dX8_isThing_15 : decode cX8_isThing 15 = .ok (.ireturn, 1) := by decide +kernel
theorem dX8_isPlace_0 : decode cX8_isPlace 0 = .ok (.iload_n 1, 1) := by decide +kernel
theorem dX8_isPlace_1 : decode cX8_isPlace 1 = .ok (.i2l, 1) := by decide +kernel
theorem dX8_isPlace_2 : decode cX8_isPlace 2 = .ok (.lconst 0, 1) := by decide +kernel
theorem dX8_isPlace_3 : decode cX8_isPlace 3 = .ok (.aload_n 0, 1) := by decide +kernel
theorem dX8_isPlace_4 : decode cX8_isPlace 4 = .ok (.getfield 19, 3) := by decide +kernel
theorem dX8_isPlace_7 : decode cX8_isPlace 7 = .ok (.iconst 0, 1) := by decide +kernel
theorem dX8_isPlace_8 : decode cX8_isPlace 8 = .ok (.iaload, 1) := by decide +kernel
theorem dX8_isPlace_9 : decode cX8_isPlace 9 = .ok (.iconst 1, 1) := by decide +kernel
theorem dX8_isPlace_10 : decode cX8_isPlace 10 = .ok (.isub, 1) := by decide +kernel
theorem dX8_isPlace_11 : decode cX8_isPlace 11 = .ok (.i2l, 1) := by decide +kernel
theorem dX8_isPlace_12 : decode cX8_isPlace 12 = .ok (.invokestatic 54, 3) := by decide +kernel
theorem dX8_isPlace_15 : decode cX8_isPlace 15 = .ok (.ireturn, 1) := by decide +kernel
theorem dX8_of_0 : decode cX8_of 0 = .ok (.aload_n 0, 1) := by decide +kernel
theorem dX8_of_1 : decode cX8_of 1 = .ok (.bipush 16, 2) := by decide +kernel
theorem dX8_of_3 : decode cX8_of 3 = .ok (.bipush 6, 2) := by decide +kernel
theorem dX8_of_5 : decode cX8_of 5 = .ok (.iload_n 1, 1) := by decide +kernel
theorem dX8_of_6 : decode cX8_of 6 = .ok (.imul, 1) := by decide +kernel
theorem dX8_of_7 : decode cX8_of 7 = .ok (.iadd, 1) := by decide +kernel
theorem dX8_of_8 : decode cX8_of 8 = .ok (.iload_n 2, 1) := by decide +kernel
theorem dX8_of_9 : decode cX8_of 9 = .ok (.iadd, 1) := by decide +kernel
theorem dX8_of_10 : decode cX8_of 10 = .ok (.iaload, 1) := by decide +kernel
theorem dX8_of_11 : decode cX8_of 11 = .ok (.ireturn, 1) := by decide +kernel
theorem dX8_lives_0 : decode cX8_lives 0 = .ok (.aload_n 0, 1) := by decide +kernel
theorem dX8_lives_1 : decode cX8_lives 1 = .ok (.iload_n 1, 1) := by decide +kernel
theorem dX8_lives_2 : decode cX8_lives 2 = .ok (.iconst 5, 1) := by decide +kernel
theorem dX8_lives_3 : decode cX8_lives 3 = .ok (.invokestatic 149, 3) := by decide +kernel
theorem dX8_lives_6 : decode cX8_lives 6 = .ok (.ifCond .ne 7, 3) := by decide +kernel
theorem dX8_lives_9 : decode cX8_lives 9 = .ok (.iconst 1, 1) := by decide +kernel
theorem dX8_lives_10 : decode cX8_lives 10 = .ok (.goto 4, 3) := by decide +kernel
theorem dX8_lives_13 : decode cX8_lives 13 = .ok (.iconst 0, 1) := by decide +kernel
theorem dX8_lives_14 : decode cX8_lives 14 = .ok (.ireturn, 1) := by decide +kernel
theorem dX8_nameAt_0 : decode cX8_nameAt 0 = .ok (.aload_n 0, 1) := by decide +kernel
theorem dX8_nameAt_1 : decode cX8_nameAt 1 = .ok (.bipush 6, 2) := by decide +kernel
theorem dX8_nameAt_3 : decode cX8_nameAt 3 = .ok (.iconst 2, 1) := by decide +kernel
theorem dX8_nameAt_4 : decode cX8_nameAt 4 = .ok (.aload_n 0, 1) := by decide +kernel
theorem dX8_nameAt_5 : decode cX8_nameAt 5 = .ok (.iload_n 1, 1) := by decide +kernel
theorem dX8_nameAt_6 : decode cX8_nameAt 6 = .ok (.iconst 1, 1) := by decide +kernel
theorem dX8_nameAt_7 : decode cX8_nameAt 7 = .ok (.invokestatic 149, 3) := by decide +kernel
theorem dX8_nameAt_10 : decode cX8_nameAt 10 = .ok (.imul, 1) := by decide +kernel
theorem dX8_nameAt_11 : decode cX8_nameAt 11 = .ok (.iadd, 1) := by decide +kernel
theorem dX8_nameAt_12 : decode cX8_nameAt 12 = .ok (.iaload, 1) := by decide +kernel
theorem dX8_nameAt_13 : decode cX8_nameAt 13 = .ok (.ireturn, 1) := by decide +kernel
theorem dX8_goesTo_0 : decode cX8_goesTo 0 = .ok (.aload_n 0, 1) := by decide +kernel
theorem dX8_goesTo_1 : decode cX8_goesTo 1 = .ok (.iconst 0, 1) := by decide +kernel
theorem dX8_goesTo_2 : decode cX8_goesTo 2 = .ok (.iaload, 1) := by decide +kernel
theorem dX8_goesTo_3 : decode cX8_goesTo 3 = .ok (.istore_n 2, 1) := by decide +kernel
theorem dX8_goesTo_4 : decode cX8_goesTo 4 = .ok (.aload_n 0, 1) := by decide +kernel
theorem dX8_goesTo_5 : decode cX8_goesTo 5 = .ok (.iload_n 1, 1) := by decide +kernel
theorem dX8_goesTo_6 : decode cX8_goesTo 6 = .ok (.iconst 2, 1) := by decide +kernel
theorem dX8_goesTo_7 : decode cX8_goesTo 7 = .ok (.invokestatic 149, 3) := by decide +kernel
theorem dX8_goesTo_10 : decode cX8_goesTo 10 = .ok (.istore_n 3, 1) := by decide +kernel
theorem dX8_goesTo_11 : decode cX8_goesTo 11 = .ok (.aload_n 0, 1) := by decide +kernel
theorem dX8_goesTo_12 : decode cX8_goesTo 12 = .ok (.iload_n 1, 1) := by decide +kernel
theorem dX8_goesTo_13 : decode cX8_goesTo 13 = .ok (.iconst 3, 1) := by decide +kernel
theorem dX8_goesTo_14 : decode cX8_goesTo 14 = .ok (.invokestatic 149, 3) := by decide +kernel
theorem dX8_goesTo_17 : decode cX8_goesTo 17 = .ok (.istore 4, 2) := by decide +kernel
theorem dX8_goesTo_19 : decode cX8_goesTo 19 = .ok (.iload_n 3, 1) := by decide +kernel
theorem dX8_goesTo_20 : decode cX8_goesTo 20 = .ok (.iload 4, 2) := by decide +kernel
theorem dX8_goesTo_22 : decode cX8_goesTo 22 = .ok (.iadd, 1) := by decide +kernel
theorem dX8_goesTo_23 : decode cX8_goesTo 23 = .ok (.iload_n 2, 1) := by decide +kernel
theorem dX8_goesTo_24 : decode cX8_goesTo 24 = .ok (.irem, 1) := by decide +kernel
theorem dX8_goesTo_25 : decode cX8_goesTo 25 = .ok (.istore 5, 2) := by decide +kernel
theorem dX8_goesTo_27 : decode cX8_goesTo 27 = .ok (.aload_n 0, 1) := by decide +kernel
theorem dX8_goesTo_28 : decode cX8_goesTo 28 = .ok (.iload_n 1, 1) := by decide +kernel
theorem dX8_goesTo_29 : decode cX8_goesTo 29 = .ok (.invokestatic 153, 3) := by decide +kernel
theorem dX8_goesTo_32 : decode cX8_goesTo 32 = .ok (.iload_n 3, 1) := by decide +kernel
theorem dX8_goesTo_33 : decode cX8_goesTo 33 = .ok (.iload_n 2, 1) := by decide +kernel
theorem dX8_goesTo_34 : decode cX8_goesTo 34 = .ok (.iadd, 1) := by decide +kernel
theorem dX8_goesTo_35 : decode cX8_goesTo 35 = .ok (.iconst 1, 1) := by decide +kernel
theorem dX8_goesTo_36 : decode cX8_goesTo 36 = .ok (.isub, 1) := by decide +kernel
theorem dX8_goesTo_37 : decode cX8_goesTo 37 = .ok (.iload_n 2, 1) := by decide +kernel
theorem dX8_goesTo_38 : decode cX8_goesTo 38 = .ok (.irem, 1) := by decide +kernel
theorem dX8_goesTo_39 : decode cX8_goesTo 39 = .ok (.if_icmp .ne 7, 3) := by decide +kernel
theorem dX8_goesTo_42 : decode cX8_goesTo 42 = .ok (.iconst 1, 1) := by decide +kernel
theorem dX8_goesTo_43 : decode cX8_goesTo 43 = .ok (.goto 4, 3) := by decide +kernel
theorem dX8_goesTo_46 : decode cX8_goesTo 46 = .ok (.iconst 0, 1) := by decide +kernel
theorem dX8_goesTo_47 : decode cX8_goesTo 47 = .ok (.istore 6, 2) := by decide +kernel
theorem dX8_goesTo_49 : decode cX8_goesTo 49 = .ok (.aload_n 0, 1) := by decide +kernel
theorem dX8_goesTo_50 : decode cX8_goesTo 50 = .ok (.iload_n 1, 1) := by decide +kernel
theorem dX8_goesTo_51 : decode cX8_goesTo 51 = .ok (.iconst 0, 1) := by decide +kernel
theorem dX8_goesTo_52 : decode cX8_goesTo 52 = .ok (.invokestatic 149, 3) := by decide +kernel
theorem dX8_goesTo_55 : decode cX8_goesTo 55 = .ok (.tableswitch 73 1 4 #[29, 32, 49, 58], 29) := by decide +kernel
theorem dX8_goesTo_84 : decode cX8_goesTo 84 = .ok (.iload 5, 2) := by decide +kernel
theorem dX8_goesTo_86 : decode cX8_goesTo 86 = .ok (.ireturn, 1) := by decide +kernel
theorem dX8_goesTo_87 : decode cX8_goesTo 87 = .ok (.aload_n 0, 1) := by decide +kernel
theorem dX8_goesTo_88 : decode cX8_goesTo 88 = .ok (.iload_n 1, 1) := by decide +kernel
theorem dX8_goesTo_89 : decode cX8_goesTo 89 = .ok (.invokestatic 153, 3) := by decide +kernel
theorem dX8_goesTo_92 : decode cX8_goesTo 92 = .ok (.iload 5, 2) := by decide +kernel
theorem dX8_goesTo_94 : decode cX8_goesTo 94 = .ok (.if_icmp .ne 7, 3) := by decide +kernel
theorem dX8_goesTo_97 : decode cX8_goesTo 97 = .ok (.iload_n 3, 1) := by decide +kernel
theorem dX8_goesTo_98 : decode cX8_goesTo 98 = .ok (.goto 5, 3) := by decide +kernel
theorem dX8_goesTo_101 : decode cX8_goesTo 101 = .ok (.iload 5, 2) := by decide +kernel
theorem dX8_goesTo_103 : decode cX8_goesTo 103 = .ok (.ireturn, 1) := by decide +kernel
theorem dX8_goesTo_104 : decode cX8_goesTo 104 = .ok (.iload_n 3, 1) := by decide +kernel
theorem dX8_goesTo_105 : decode cX8_goesTo 105 = .ok (.iconst 2, 1) := by decide +kernel
theorem dX8_goesTo_106 : decode cX8_goesTo 106 = .ok (.iload 4, 2) := by decide +kernel
theorem dX8_goesTo_108 : decode cX8_goesTo 108 = .ok (.imul, 1) := by decide +kernel
theorem dX8_goesTo_109 : decode cX8_goesTo 109 = .ok (.iadd, 1) := by decide +kernel
theorem dX8_goesTo_110 : decode cX8_goesTo 110 = .ok (.iload_n 2, 1) := by decide +kernel
theorem dX8_goesTo_111 : decode cX8_goesTo 111 = .ok (.irem, 1) := by decide +kernel
theorem dX8_goesTo_112 : decode cX8_goesTo 112 = .ok (.ireturn, 1) := by decide +kernel
theorem dX8_goesTo_113 : decode cX8_goesTo 113 = .ok (.iload 6, 2) := by decide +kernel
theorem dX8_goesTo_115 : decode cX8_goesTo 115 = .ok (.ifCond .eq 11, 3) := by decide +kernel
theorem dX8_goesTo_118 : decode cX8_goesTo 118 = .ok (.iload_n 3, 1) := by decide +kernel
theorem dX8_goesTo_119 : decode cX8_goesTo 119 = .ok (.iconst 1, 1) := by decide +kernel
theorem dX8_goesTo_120 : decode cX8_goesTo 120 = .ok (.iadd, 1) := by decide +kernel
theorem dX8_goesTo_121 : decode cX8_goesTo 121 = .ok (.iload_n 2, 1) := by decide +kernel
theorem dX8_goesTo_122 : decode cX8_goesTo 122 = .ok (.irem, 1) := by decide +kernel
theorem dX8_goesTo_123 : decode cX8_goesTo 123 = .ok (.goto 4, 3) := by decide +kernel
theorem dX8_goesTo_126 : decode cX8_goesTo 126 = .ok (.iload_n 3, 1) := by decide +kernel
theorem dX8_goesTo_127 : decode cX8_goesTo 127 = .ok (.ireturn, 1) := by decide +kernel
theorem dX8_goesTo_128 : decode cX8_goesTo 128 = .ok (.iload 6, 2) := by decide +kernel
theorem dX8_goesTo_130 : decode cX8_goesTo 130 = .ok (.ifCond .eq 13, 3) := by decide +kernel
theorem dX8_goesTo_133 : decode cX8_goesTo 133 = .ok (.iload_n 3, 1) := by decide +kernel
theorem dX8_goesTo_134 : decode cX8_goesTo 134 = .ok (.aload_n 0, 1) := by decide +kernel
theorem dX8_goesTo_135 : decode cX8_goesTo 135 = .ok (.iconst 1, 1) := by decide +kernel
theorem dX8_goesTo_136 : decode cX8_goesTo 136 = .ok (.iaload, 1) := by decide +kernel
theorem dX8_goesTo_137 : decode cX8_goesTo 137 = .ok (.iadd, 1) := by decide +kernel
theorem dX8_goesTo_138 : decode cX8_goesTo 138 = .ok (.iload_n 2, 1) := by decide +kernel
theorem dX8_goesTo_139 : decode cX8_goesTo 139 = .ok (.irem, 1) := by decide +kernel
theorem dX8_goesTo_140 : decode cX8_goesTo 140 = .ok (.goto 4, 3) := by decide +kernel
theorem dX8_goesTo_143 : decode cX8_goesTo 143 = .ok (.iload_n 3, 1) := by decide +kernel
theorem dX8_goesTo_144 : decode cX8_goesTo 144 = .ok (.ireturn, 1) := by decide +kernel
theorem dX8_day_0 : decode cX8_day 0 = .ok (.iconst 0, 1) := by decide +kernel
theorem dX8_day_1 : decode cX8_day 1 = .ok (.istore_n 2, 1) := by decide +kernel
theorem dX8_day_2 : decode cX8_day 2 = .ok (.iload_n 2, 1) := by decide +kernel
theorem dX8_day_3 : decode cX8_day 3 = .ok (.aload_n 0, 1) := by decide +kernel
theorem dX8_day_4 : decode cX8_day 4 = .ok (.iconst 2, 1) := by decide +kernel
theorem dX8_day_5 : decode cX8_day 5 = .ok (.iaload, 1) := by decide +kernel
theorem dX8_day_6 : decode cX8_day 6 = .ok (.if_icmp .ge 62, 3) := by decide +kernel
theorem dX8_day_9 : decode cX8_day 9 = .ok (.bipush 6, 2) := by decide +kernel
theorem dX8_day_11 : decode cX8_day 11 = .ok (.iconst 2, 1) := by decide +kernel
theorem dX8_day_12 : decode cX8_day 12 = .ok (.iload_n 2, 1) := by decide +kernel
theorem dX8_day_13 : decode cX8_day 13 = .ok (.imul, 1) := by decide +kernel
theorem dX8_day_14 : decode cX8_day 14 = .ok (.iadd, 1) := by decide +kernel
theorem dX8_day_15 : decode cX8_day 15 = .ok (.istore_n 3, 1) := by decide +kernel
theorem dX8_day_16 : decode cX8_day 16 = .ok (.aload_n 0, 1) := by decide +kernel
theorem dX8_day_17 : decode cX8_day 17 = .ok (.iconst 5, 1) := by decide +kernel
theorem dX8_day_18 : decode cX8_day 18 = .ok (.iaload, 1) := by decide +kernel
theorem dX8_day_19 : decode cX8_day 19 = .ok (.iload_n 1, 1) := by decide +kernel
theorem dX8_day_20 : decode cX8_day 20 = .ok (.ior, 1) := by decide +kernel
theorem dX8_day_21 : decode cX8_day 21 = .ok (.iload_n 2, 1) := by decide +kernel
theorem dX8_day_22 : decode cX8_day 22 = .ok (.ishr, 1) := by decide +kernel
theorem dX8_day_23 : decode cX8_day 23 = .ok (.iconst 1, 1) := by decide +kernel
theorem dX8_day_24 : decode cX8_day 24 = .ok (.iand, 1) := by decide +kernel
theorem dX8_day_25 : decode cX8_day 25 = .ok (.ifCond .ne 7, 3) := by decide +kernel
theorem dX8_day_28 : decode cX8_day 28 = .ok (.iconst 1, 1) := by decide +kernel
theorem dX8_day_29 : decode cX8_day 29 = .ok (.goto 4, 3) := by decide +kernel
theorem dX8_day_32 : decode cX8_day 32 = .ok (.iconst 0, 1) := by decide +kernel
theorem dX8_day_33 : decode cX8_day 33 = .ok (.istore 4, 2) := by decide +kernel
theorem dX8_day_35 : decode cX8_day 35 = .ok (.aload_n 0, 1) := by decide +kernel
theorem dX8_day_36 : decode cX8_day 36 = .ok (.iload_n 3, 1) := by decide +kernel
theorem dX8_day_37 : decode cX8_day 37 = .ok (.iload 4, 2) := by decide +kernel
theorem dX8_day_39 : decode cX8_day 39 = .ok (.ifCond .eq 19, 3) := by decide +kernel
theorem dX8_day_42 : decode cX8_day 42 = .ok (.aload_n 0, 1) := by decide +kernel
theorem dX8_day_43 : decode cX8_day 43 = .ok (.iload_n 3, 1) := by decide +kernel
theorem dX8_day_44 : decode cX8_day 44 = .ok (.iaload, 1) := by decide +kernel
theorem dX8_day_45 : decode cX8_day 45 = .ok (.aload_n 0, 1) := by decide +kernel
theorem dX8_day_46 : decode cX8_day 46 = .ok (.iload_n 3, 1) := by decide +kernel
theorem dX8_day_47 : decode cX8_day 47 = .ok (.iconst 1, 1) := by decide +kernel
theorem dX8_day_48 : decode cX8_day 48 = .ok (.iadd, 1) := by decide +kernel
theorem dX8_day_49 : decode cX8_day 49 = .ok (.iaload, 1) := by decide +kernel
theorem dX8_day_50 : decode cX8_day 50 = .ok (.iadd, 1) := by decide +kernel
theorem dX8_day_51 : decode cX8_day 51 = .ok (.aload_n 0, 1) := by decide +kernel
theorem dX8_day_52 : decode cX8_day 52 = .ok (.iconst 0, 1) := by decide +kernel
theorem dX8_day_53 : decode cX8_day 53 = .ok (.iaload, 1) := by decide +kernel
theorem dX8_day_54 : decode cX8_day 54 = .ok (.irem, 1) := by decide +kernel
theorem dX8_day_55 : decode cX8_day 55 = .ok (.goto 6, 3) := by decide +kernel
theorem dX8_day_58 : decode cX8_day 58 = .ok (.aload_n 0, 1) := by decide +kernel
theorem dX8_day_59 : decode cX8_day 59 = .ok (.iload_n 3, 1) := by decide +kernel
theorem dX8_day_60 : decode cX8_day 60 = .ok (.iaload, 1) := by decide +kernel
theorem dX8_day_61 : decode cX8_day 61 = .ok (.iastore, 1) := by decide +kernel
theorem dX8_day_62 : decode cX8_day 62 = .ok (.iinc 2 1, 3) := by decide +kernel
theorem dX8_day_65 : decode cX8_day 65 = .ok (.goto (-63), 3) := by decide +kernel
theorem dX8_day_68 : decode cX8_day 68 = .ok (.iconst 0, 1) := by decide +kernel
theorem dX8_day_69 : decode cX8_day 69 = .ok (.istore_n 2, 1) := by decide +kernel
theorem dX8_day_70 : decode cX8_day 70 = .ok (.iconst 0, 1) := by decide +kernel
theorem dX8_day_71 : decode cX8_day 71 = .ok (.istore_n 3, 1) := by decide +kernel
theorem dX8_day_72 : decode cX8_day 72 = .ok (.iload_n 3, 1) := by decide +kernel
theorem dX8_day_73 : decode cX8_day 73 = .ok (.aload_n 0, 1) := by decide +kernel
theorem dX8_day_74 : decode cX8_day 74 = .ok (.iconst 3, 1) := by decide +kernel
theorem dX8_day_75 : decode cX8_day 75 = .ok (.iaload, 1) := by decide +kernel
theorem dX8_day_76 : decode cX8_day 76 = .ok (.if_icmp .ge 135, 3) := by decide +kernel
theorem dX8_day_79 : decode cX8_day 79 = .ok (.bipush 16, 2) := by decide +kernel
theorem dX8_day_81 : decode cX8_day 81 = .ok (.bipush 6, 2) := by decide +kernel
theorem dX8_day_83 : decode cX8_day 83 = .ok (.iload_n 3, 1) := by decide +kernel
theorem dX8_day_84 : decode cX8_day 84 = .ok (.imul, 1) := by decide +kernel
theorem dX8_day_85 : decode cX8_day 85 = .ok (.iadd, 1) := by decide +kernel
theorem dX8_day_86 : decode cX8_day 86 = .ok (.istore 4, 2) := by decide +kernel
theorem dX8_day_88 : decode cX8_day 88 = .ok (.aload_n 0, 1) := by decide +kernel
theorem dX8_day_89 : decode cX8_day 89 = .ok (.iload_n 3, 1) := by decide +kernel
theorem dX8_day_90 : decode cX8_day 90 = .ok (.invokestatic 157, 3) := by decide +kernel
theorem dX8_day_93 : decode cX8_day 93 = .ok (.ifCond .eq 89, 3) := by decide +kernel
theorem dX8_day_96 : decode cX8_day 96 = .ok (.aload_n 0, 1) := by decide +kernel
theorem dX8_day_97 : decode cX8_day 97 = .ok (.iload 4, 2) := by decide +kernel
theorem dX8_day_99 : decode cX8_day 99 = .ok (.iconst 2, 1) := by decide +kernel
theorem dX8_day_100 : decode cX8_day 100 = .ok (.iadd, 1) := by decide +kernel
theorem dX8_day_101 : decode cX8_day 101 = .ok (.aload_n 0, 1) := by decide +kernel
theorem dX8_day_102 : decode cX8_day 102 = .ok (.iload 4, 2) := by decide +kernel
theorem dX8_day_104 : decode cX8_day 104 = .ok (.iconst 4, 1) := by decide +kernel
theorem dX8_day_105 : decode cX8_day 105 = .ok (.iadd, 1) := by decide +kernel
theorem dX8_day_106 : decode cX8_day 106 = .ok (.iaload, 1) := by decide +kernel
theorem dX8_day_107 : decode cX8_day 107 = .ok (.ifCond .le 12, 3) := by decide +kernel
theorem dX8_day_110 : decode cX8_day 110 = .ok (.aload_n 0, 1) := by decide +kernel
theorem dX8_day_111 : decode cX8_day 111 = .ok (.iload 4, 2) := by decide +kernel
theorem dX8_day_113 : decode cX8_day 113 = .ok (.iconst 2, 1) := by decide +kernel
theorem dX8_day_114 : decode cX8_day 114 = .ok (.iadd, 1) := by decide +kernel
theorem dX8_day_115 : decode cX8_day 115 = .ok (.iaload, 1) := by decide +kernel
theorem dX8_day_116 : decode cX8_day 116 = .ok (.goto 8, 3) := by decide +kernel
theorem dX8_day_119 : decode cX8_day 119 = .ok (.aload_n 0, 1) := by decide +kernel
theorem dX8_day_120 : decode cX8_day 120 = .ok (.iload_n 3, 1) := by decide +kernel
theorem dX8_day_121 : decode cX8_day 121 = .ok (.invokestatic 161, 3) := by decide +kernel
theorem dX8_day_124 : decode cX8_day 124 = .ok (.iastore, 1) := by decide +kernel
theorem dX8_day_125 : decode cX8_day 125 = .ok (.aload_n 0, 1) := by decide +kernel
theorem dX8_day_126 : decode cX8_day 126 = .ok (.iload 4, 2) := by decide +kernel
theorem dX8_day_128 : decode cX8_day 128 = .ok (.iaload, 1) := by decide +kernel
theorem dX8_day_129 : decode cX8_day 129 = .ok (.iconst 5, 1) := by decide +kernel
theorem dX8_day_130 : decode cX8_day 130 = .ok (.if_icmp .ne 12, 3) := by decide +kernel
theorem dX8_day_133 : decode cX8_day 133 = .ok (.aload_n 0, 1) := by decide +kernel
theorem dX8_day_134 : decode cX8_day 134 = .ok (.iconst 4, 1) := by decide +kernel
theorem dX8_day_135 : decode cX8_day 135 = .ok (.iaload, 1) := by decide +kernel
theorem dX8_day_136 : decode cX8_day 136 = .ok (.aload_n 0, 1) := by decide +kernel
theorem dX8_day_137 : decode cX8_day 137 = .ok (.iconst 1, 1) := by decide +kernel
theorem dX8_day_138 : decode cX8_day 138 = .ok (.iaload, 1) := by decide +kernel
theorem dX8_day_139 : decode cX8_day 139 = .ok (.if_icmp .lt 7, 3) := by decide +kernel
theorem dX8_day_142 : decode cX8_day 142 = .ok (.iconst 1, 1) := by decide +kernel
theorem dX8_day_143 : decode cX8_day 143 = .ok (.goto 4, 3) := by decide +kernel
theorem dX8_day_146 : decode cX8_day 146 = .ok (.iconst 0, 1) := by decide +kernel
theorem dX8_day_147 : decode cX8_day 147 = .ok (.istore 5, 2) := by decide +kernel
theorem dX8_day_149 : decode cX8_day 149 = .ok (.iload 5, 2) := by decide +kernel
theorem dX8_day_151 : decode cX8_day 151 = .ok (.ifCond .eq 31, 3) := by decide +kernel
theorem dX8_day_154 : decode cX8_day 154 = .ok (.aload_n 0, 1) := by decide +kernel
theorem dX8_day_155 : decode cX8_day 155 = .ok (.iload_n 3, 1) := by decide +kernel
theorem dX8_day_156 : decode cX8_day 156 = .ok (.invokestatic 153, 3) := by decide +kernel
theorem dX8_day_159 : decode cX8_day 159 = .ok (.aload_n 0, 1) := by decide +kernel
theorem dX8_day_160 : decode cX8_day 160 = .ok (.iload 4, 2) := by decide +kernel
theorem dX8_day_162 : decode cX8_day 162 = .ok (.iconst 2, 1) := by decide +kernel
theorem dX8_day_163 : decode cX8_day 163 = .ok (.iadd, 1) := by decide +kernel
theorem dX8_day_164 : decode cX8_day 164 = .ok (.iaload, 1) := by decide +kernel
theorem dX8_day_165 : decode cX8_day 165 = .ok (.if_icmp .ne 17, 3) := by decide +kernel
theorem dX8_day_168 : decode cX8_day 168 = .ok (.aload_n 0, 1) := by decide +kernel
theorem dX8_day_169 : decode cX8_day 169 = .ok (.iload 4, 2) := by decide +kernel
theorem dX8_day_171 : decode cX8_day 171 = .ok (.iconst 5, 1) := by decide +kernel
theorem dX8_day_172 : decode cX8_day 172 = .ok (.iadd, 1) := by decide +kernel
theorem dX8_day_173 : decode cX8_day 173 = .ok (.aload_n 0, 1) := by decide +kernel
theorem dX8_day_174 : decode cX8_day 174 = .ok (.iconst 4, 1) := by decide +kernel
theorem dX8_day_175 : decode cX8_day 175 = .ok (.iaload, 1) := by decide +kernel
theorem dX8_day_176 : decode cX8_day 176 = .ok (.iconst 1, 1) := by decide +kernel
theorem dX8_day_177 : decode cX8_day 177 = .ok (.iadd, 1) := by decide +kernel
theorem dX8_day_178 : decode cX8_day 178 = .ok (.iastore, 1) := by decide +kernel
theorem dX8_day_179 : decode cX8_day 179 = .ok (.iinc 2 1, 3) := by decide +kernel
theorem dX8_day_182 : decode cX8_day 182 = .ok (.aload_n 0, 1) := by decide +kernel
theorem dX8_day_183 : decode cX8_day 183 = .ok (.iload 4, 2) := by decide +kernel
theorem dX8_day_185 : decode cX8_day 185 = .ok (.iconst 4, 1) := by decide +kernel
theorem dX8_day_186 : decode cX8_day 186 = .ok (.iadd, 1) := by decide +kernel
theorem dX8_day_187 : decode cX8_day 187 = .ok (.dup2, 1) := by decide +kernel
theorem dX8_day_188 : decode cX8_day 188 = .ok (.iaload, 1) := by decide +kernel
theorem dX8_day_189 : decode cX8_day 189 = .ok (.aload_n 0, 1) := by decide +kernel
theorem dX8_day_190 : decode cX8_day 190 = .ok (.iload 4, 2) := by decide +kernel
theorem dX8_day_192 : decode cX8_day 192 = .ok (.iconst 4, 1) := by decide +kernel
theorem dX8_day_193 : decode cX8_day 193 = .ok (.iadd, 1) := by decide +kernel
theorem dX8_day_194 : decode cX8_day 194 = .ok (.iaload, 1) := by decide +kernel
theorem dX8_day_195 : decode cX8_day 195 = .ok (.ifCond .le 7, 3) := by decide +kernel
theorem dX8_day_198 : decode cX8_day 198 = .ok (.iconst 1, 1) := by decide +kernel
theorem dX8_day_199 : decode cX8_day 199 = .ok (.goto 4, 3) := by decide +kernel
theorem dX8_day_202 : decode cX8_day 202 = .ok (.iconst 0, 1) := by decide +kernel
theorem dX8_day_203 : decode cX8_day 203 = .ok (.isub, 1) := by decide +kernel
theorem dX8_day_204 : decode cX8_day 204 = .ok (.iastore, 1) := by decide +kernel
theorem dX8_day_205 : decode cX8_day 205 = .ok (.iinc 3 1, 3) := by decide +kernel
theorem dX8_day_208 : decode cX8_day 208 = .ok (.goto (-136), 3) := by decide +kernel
theorem dX8_day_211 : decode cX8_day 211 = .ok (.aload_n 0, 1) := by decide +kernel
theorem dX8_day_212 : decode cX8_day 212 = .ok (.iconst 4, 1) := by decide +kernel
theorem dX8_day_213 : decode cX8_day 213 = .ok (.dup2, 1) := by decide +kernel
theorem dX8_day_214 : decode cX8_day 214 = .ok (.iaload, 1) := by decide +kernel
theorem dX8_day_215 : decode cX8_day 215 = .ok (.iconst 1, 1) := by decide +kernel
theorem dX8_day_216 : decode cX8_day 216 = .ok (.iadd, 1) := by decide +kernel
theorem dX8_day_217 : decode cX8_day 217 = .ok (.iastore, 1) := by decide +kernel
theorem dX8_day_218 : decode cX8_day 218 = .ok (.iload_n 2, 1) := by decide +kernel
theorem dX8_day_219 : decode cX8_day 219 = .ok (.ireturn, 1) := by decide +kernel
theorem dX8_daysOf_0 : decode cX8_daysOf 0 = .ok (.iconst 0, 1) := by decide +kernel
theorem dX8_daysOf_1 : decode cX8_daysOf 1 = .ok (.istore_n 2, 1) := by decide +kernel
theorem dX8_daysOf_2 : decode cX8_daysOf 2 = .ok (.iconst 0, 1) := by decide +kernel
theorem dX8_daysOf_3 : decode cX8_daysOf 3 = .ok (.istore_n 3, 1) := by decide +kernel
theorem dX8_daysOf_4 : decode cX8_daysOf 4 = .ok (.iload_n 3, 1) := by decide +kernel
theorem dX8_daysOf_5 : decode cX8_daysOf 5 = .ok (.iload_n 1, 1) := by decide +kernel
theorem dX8_daysOf_6 : decode cX8_daysOf 6 = .ok (.if_icmp .ge 17, 3) := by decide +kernel
theorem dX8_daysOf_9 : decode cX8_daysOf 9 = .ok (.iload_n 2, 1) := by decide +kernel
theorem dX8_daysOf_10 : decode cX8_daysOf 10 = .ok (.aload_n 0, 1) := by decide +kernel
theorem dX8_daysOf_11 : decode cX8_daysOf 11 = .ok (.iconst 0, 1) := by decide +kernel
theorem dX8_daysOf_12 : decode cX8_daysOf 12 = .ok (.invokestatic 164, 3) := by decide +kernel
theorem dX8_daysOf_15 : decode cX8_daysOf 15 = .ok (.iadd, 1) := by decide +kernel
theorem dX8_daysOf_16 : decode cX8_daysOf 16 = .ok (.istore_n 2, 1) := by decide +kernel
theorem dX8_daysOf_17 : decode cX8_daysOf 17 = .ok (.iinc 3 1, 3) := by decide +kernel
theorem dX8_daysOf_20 : decode cX8_daysOf 20 = .ok (.goto (-16), 3) := by decide +kernel
theorem dX8_daysOf_23 : decode cX8_daysOf 23 = .ok (.iload_n 2, 1) := by decide +kernel
theorem dX8_daysOf_24 : decode cX8_daysOf 24 = .ok (.ireturn, 1) := by decide +kernel
theorem dX8_living_0 : decode cX8_living 0 = .ok (.iconst 0, 1) := by decide +kernel
theorem dX8_living_1 : decode cX8_living 1 = .ok (.istore_n 1, 1) := by decide +kernel
theorem dX8_living_2 : decode cX8_living 2 = .ok (.iconst 0, 1) := by decide +kernel
theorem dX8_living_3 : decode cX8_living 3 = .ok (.istore_n 2, 1) := by decide +kernel
theorem dX8_living_4 : decode cX8_living 4 = .ok (.iload_n 2, 1) := by decide +kernel
theorem dX8_living_5 : decode cX8_living 5 = .ok (.aload_n 0, 1) := by decide +kernel
theorem dX8_living_6 : decode cX8_living 6 = .ok (.iconst 3, 1) := by decide +kernel
theorem dX8_living_7 : decode cX8_living 7 = .ok (.iaload, 1) := by decide +kernel
theorem dX8_living_8 : decode cX8_living 8 = .ok (.if_icmp .ge 27, 3) := by decide +kernel
theorem dX8_living_11 : decode cX8_living 11 = .ok (.iload_n 1, 1) := by decide +kernel
theorem dX8_living_12 : decode cX8_living 12 = .ok (.aload_n 0, 1) := by decide +kernel
theorem dX8_living_13 : decode cX8_living 13 = .ok (.iload_n 2, 1) := by decide +kernel
theorem dX8_living_14 : decode cX8_living 14 = .ok (.invokestatic 157, 3) := by decide +kernel
theorem dX8_living_17 : decode cX8_living 17 = .ok (.ifCond .eq 9, 3) := by decide +kernel
theorem dX8_living_20 : decode cX8_living 20 = .ok (.iconst 1, 1) := by decide +kernel
theorem dX8_living_21 : decode cX8_living 21 = .ok (.iload_n 2, 1) := by decide +kernel
theorem dX8_living_22 : decode cX8_living 22 = .ok (.ishl, 1) := by decide +kernel
theorem dX8_living_23 : decode cX8_living 23 = .ok (.goto 4, 3) := by decide +kernel
theorem dX8_living_26 : decode cX8_living 26 = .ok (.iconst 0, 1) := by decide +kernel
theorem dX8_living_27 : decode cX8_living 27 = .ok (.ior, 1) := by decide +kernel
theorem dX8_living_28 : decode cX8_living 28 = .ok (.istore_n 1, 1) := by decide +kernel
theorem dX8_living_29 : decode cX8_living 29 = .ok (.iinc 2 1, 3) := by decide +kernel
theorem dX8_living_32 : decode cX8_living 32 = .ok (.goto (-28), 3) := by decide +kernel
theorem dX8_living_35 : decode cX8_living 35 = .ok (.iload_n 1, 1) := by decide +kernel
theorem dX8_living_36 : decode cX8_living 36 = .ok (.ireturn, 1) := by decide +kernel
theorem dX8_layThen_0 : decode cX8_layThen 0 = .ok (.iconst 0, 1) := by decide +kernel
theorem dX8_layThen_1 : decode cX8_layThen 1 = .ok (.istore_n 1, 1) := by decide +kernel
theorem dX8_layThen_2 : decode cX8_layThen 2 = .ok (.iload_n 1, 1) := by decide +kernel
theorem dX8_layThen_3 : decode cX8_layThen 3 = .ok (.bipush 58, 2) := by decide +kernel
theorem dX8_layThen_5 : decode cX8_layThen 5 = .ok (.if_icmp .ge 21, 3) := by decide +kernel
theorem dX8_layThen_8 : decode cX8_layThen 8 = .ok (.aload_n 0, 1) := by decide +kernel
theorem dX8_layThen_9 : decode cX8_layThen 9 = .ok (.getfield 25, 3) := by decide +kernel
theorem dX8_layThen_12 : decode cX8_layThen 12 = .ok (.iload_n 1, 1) := by decide +kernel
theorem dX8_layThen_13 : decode cX8_layThen 13 = .ok (.aload_n 0, 1) := by decide +kernel
theorem dX8_layThen_14 : decode cX8_layThen 14 = .ok (.getfield 19, 3) := by decide +kernel
theorem dX8_layThen_17 : decode cX8_layThen 17 = .ok (.iload_n 1, 1) := by decide +kernel
theorem dX8_layThen_18 : decode cX8_layThen 18 = .ok (.iaload, 1) := by decide +kernel
theorem dX8_layThen_19 : decode cX8_layThen 19 = .ok (.iastore, 1) := by decide +kernel
theorem dX8_layThen_20 : decode cX8_layThen 20 = .ok (.iinc 1 1, 3) := by decide +kernel
theorem dX8_layThen_23 : decode cX8_layThen 23 = .ok (.goto (-21), 3) := by decide +kernel
theorem dX8_layThen_26 : decode cX8_layThen 26 = .ok (.return_, 1) := by decide +kernel
theorem dX8_diesBy_0 : decode cX8_diesBy 0 = .ok (.iconst 0, 1) := by decide +kernel
theorem dX8_diesBy_1 : decode cX8_diesBy 1 = .ok (.istore_n 2, 1) := by decide +kernel
theorem dX8_diesBy_2 : decode cX8_diesBy 2 = .ok (.iload_n 2, 1) := by decide +kernel
theorem dX8_diesBy_3 : decode cX8_diesBy 3 = .ok (.bipush 60, 2) := by decide +kernel
theorem dX8_diesBy_5 : decode cX8_diesBy 5 = .ok (.if_icmp .gt 31, 3) := by decide +kernel
theorem dX8_diesBy_8 : decode cX8_diesBy 8 = .ok (.aload_n 0, 1) := by decide +kernel
theorem dX8_diesBy_9 : decode cX8_diesBy 9 = .ok (.getfield 25, 3) := by decide +kernel
theorem dX8_diesBy_12 : decode cX8_diesBy 12 = .ok (.iload_n 1, 1) := by decide +kernel
theorem dX8_diesBy_13 : decode cX8_diesBy 13 = .ok (.invokestatic 157, 3) := by decide +kernel
theorem dX8_diesBy_16 : decode cX8_diesBy 16 = .ok (.ifCond .ne 5, 3) := by decide +kernel
theorem dX8_diesBy_19 : decode cX8_diesBy 19 = .ok (.iload_n 2, 1) := by decide +kernel
theorem dX8_diesBy_20 : decode cX8_diesBy 20 = .ok (.ireturn, 1) := by decide +kernel
theorem dX8_diesBy_21 : decode cX8_diesBy 21 = .ok (.aload_n 0, 1) := by decide +kernel
theorem dX8_diesBy_22 : decode cX8_diesBy 22 = .ok (.getfield 25, 3) := by decide +kernel
theorem dX8_diesBy_25 : decode cX8_diesBy 25 = .ok (.iconst 0, 1) := by decide +kernel
theorem dX8_diesBy_26 : decode cX8_diesBy 26 = .ok (.invokestatic 164, 3) := by decide +kernel
theorem dX8_diesBy_29 : decode cX8_diesBy 29 = .ok (.istore_n 3, 1) := by decide +kernel
theorem dX8_diesBy_30 : decode cX8_diesBy 30 = .ok (.iinc 2 1, 3) := by decide +kernel
theorem dX8_diesBy_33 : decode cX8_diesBy 33 = .ok (.goto (-31), 3) := by decide +kernel
theorem dX8_diesBy_36 : decode cX8_diesBy 36 = .ok (.ldc 87, 2) := by decide +kernel
theorem dX8_diesBy_38 : decode cX8_diesBy 38 = .ok (.ireturn, 1) := by decide +kernel
theorem dX8_bits_0 : decode cX8_bits 0 = .ok (.iconst 0, 1) := by decide +kernel
theorem dX8_bits_1 : decode cX8_bits 1 = .ok (.istore_n 1, 1) := by decide +kernel
theorem dX8_bits_2 : decode cX8_bits 2 = .ok (.iconst 0, 1) := by decide +kernel
theorem dX8_bits_3 : decode cX8_bits 3 = .ok (.istore_n 2, 1) := by decide +kernel
theorem dX8_bits_4 : decode cX8_bits 4 = .ok (.iload_n 2, 1) := by decide +kernel
theorem dX8_bits_5 : decode cX8_bits 5 = .ok (.bipush 12, 2) := by decide +kernel
theorem dX8_bits_7 : decode cX8_bits 7 = .ok (.if_icmp .ge 17, 3) := by decide +kernel
theorem dX8_bits_10 : decode cX8_bits 10 = .ok (.iload_n 1, 1) := by decide +kernel
theorem dX8_bits_11 : decode cX8_bits 11 = .ok (.iload_n 0, 1) := by decide +kernel
theorem dX8_bits_12 : decode cX8_bits 12 = .ok (.iload_n 2, 1) := by decide +kernel
theorem dX8_bits_13 : decode cX8_bits 13 = .ok (.ishr, 1) := by decide +kernel
theorem dX8_bits_14 : decode cX8_bits 14 = .ok (.iconst 1, 1) := by decide +kernel
theorem dX8_bits_15 : decode cX8_bits 15 = .ok (.iand, 1) := by decide +kernel
theorem dX8_bits_16 : decode cX8_bits 16 = .ok (.iadd, 1) := by decide +kernel
theorem dX8_bits_17 : decode cX8_bits 17 = .ok (.istore_n 1, 1) := by decide +kernel
theorem dX8_bits_18 : decode cX8_bits 18 = .ok (.iinc 2 1, 3) := by decide +kernel
theorem dX8_bits_21 : decode cX8_bits 21 = .ok (.goto (-17), 3) := by decide +kernel
theorem dX8_bits_24 : decode cX8_bits 24 = .ok (.iload_n 1, 1) := by decide +kernel
theorem dX8_bits_25 : decode cX8_bits 25 = .ok (.ireturn, 1) := by decide +kernel
theorem dX8_keep_0 : decode cX8_keep 0 = .ok (.aload_n 0, 1) := by decide +kernel
theorem dX8_keep_1 : decode cX8_keep 1 = .ok (.getfield 146, 3) := by decide +kernel
theorem dX8_keep_4 : decode cX8_keep 4 = .ok (.bipush 24, 2) := by decide +kernel
theorem dX8_keep_6 : decode cX8_keep 6 = .ok (.if_icmp .ne 43, 3) := by decide +kernel
theorem dX8_keep_9 : decode cX8_keep 9 = .ok (.iconst 0, 1) := by decide +kernel
theorem dX8_keep_10 : decode cX8_keep 10 = .ok (.istore_n 1, 1) := by decide +kernel
theorem dX8_keep_11 : decode cX8_keep 11 = .ok (.iload_n 1, 1) := by decide +kernel
theorem dX8_keep_12 : decode cX8_keep 12 = .ok (.sipush 1334, 3) := by decide +kernel
theorem dX8_keep_15 : decode cX8_keep 15 = .ok (.if_icmp .ge 24, 3) := by decide +kernel
theorem dX8_keep_18 : decode cX8_keep 18 = .ok (.aload_n 0, 1) := by decide +kernel
theorem dX8_keep_19 : decode cX8_keep 19 = .ok (.getfield 28, 3) := by decide +kernel
theorem dX8_keep_22 : decode cX8_keep 22 = .ok (.iload_n 1, 1) := by decide +kernel
theorem dX8_keep_23 : decode cX8_keep 23 = .ok (.aload_n 0, 1) := by decide +kernel
theorem dX8_keep_24 : decode cX8_keep 24 = .ok (.getfield 28, 3) := by decide +kernel
theorem dX8_keep_27 : decode cX8_keep 27 = .ok (.iload_n 1, 1) := by decide +kernel
theorem dX8_keep_28 : decode cX8_keep 28 = .ok (.bipush 58, 2) := by decide +kernel
theorem dX8_keep_30 : decode cX8_keep 30 = .ok (.iadd, 1) := by decide +kernel
theorem dX8_keep_31 : decode cX8_keep 31 = .ok (.iaload, 1) := by decide +kernel
theorem dX8_keep_32 : decode cX8_keep 32 = .ok (.iastore, 1) := by decide +kernel
theorem dX8_keep_33 : decode cX8_keep 33 = .ok (.iinc 1 1, 3) := by decide +kernel
theorem dX8_keep_36 : decode cX8_keep 36 = .ok (.goto (-25), 3) := by decide +kernel
theorem dX8_keep_39 : decode cX8_keep 39 = .ok (.aload_n 0, 1) := by decide +kernel
theorem dX8_keep_40 : decode cX8_keep 40 = .ok (.dup, 1) := by decide +kernel
theorem dX8_keep_41 : decode cX8_keep 41 = .ok (.getfield 146, 3) := by decide +kernel
theorem dX8_keep_44 : decode cX8_keep 44 = .ok (.iconst 1, 1) := by decide +kernel
theorem dX8_keep_45 : decode cX8_keep 45 = .ok (.isub, 1) := by decide +kernel
theorem dX8_keep_46 : decode cX8_keep 46 = .ok (.putfield 146, 3) := by decide +kernel
theorem dX8_keep_49 : decode cX8_keep 49 = .ok (.iconst 0, 1) := by decide +kernel
theorem dX8_keep_50 : decode cX8_keep 50 = .ok (.istore_n 1, 1) := by decide +kernel
theorem dX8_keep_51 : decode cX8_keep 51 = .ok (.iload_n 1, 1) := by decide +kernel
theorem dX8_keep_52 : decode cX8_keep 52 = .ok (.bipush 58, 2) := by decide +kernel
theorem dX8_keep_54 : decode cX8_keep 54 = .ok (.if_icmp .ge 29, 3) := by decide +kernel
theorem dX8_keep_57 : decode cX8_keep 57 = .ok (.aload_n 0, 1) := by decide +kernel
theorem dX8_keep_58 : decode cX8_keep 58 = .ok (.getfield 28, 3) := by decide +kernel
theorem dX8_keep_61 : decode cX8_keep 61 = .ok (.bipush 58, 2) := by decide +kernel
theorem dX8_keep_63 : decode cX8_keep 63 = .ok (.aload_n 0, 1) := by decide +kernel
theorem dX8_keep_64 : decode cX8_keep 64 = .ok (.getfield 146, 3) := by decide +kernel
theorem dX8_keep_67 : decode cX8_keep 67 = .ok (.imul, 1) := by decide +kernel
theorem dX8_keep_68 : decode cX8_keep 68 = .ok (.iload_n 1, 1) := by decide +kernel
theorem dX8_keep_69 : decode cX8_keep 69 = .ok (.iadd, 1) := by decide +kernel
theorem dX8_keep_70 : decode cX8_keep 70 = .ok (.aload_n 0, 1) := by decide +kernel
theorem dX8_keep_71 : decode cX8_keep 71 = .ok (.getfield 19, 3) := by decide +kernel
theorem dX8_keep_74 : decode cX8_keep 74 = .ok (.iload_n 1, 1) := by decide +kernel
theorem dX8_keep_75 : decode cX8_keep 75 = .ok (.iaload, 1) := by decide +kernel
theorem dX8_keep_76 : decode cX8_keep 76 = .ok (.iastore, 1) := by decide +kernel
theorem dX8_keep_77 : decode cX8_keep 77 = .ok (.iinc 1 1, 3) := by decide +kernel
theorem dX8_keep_80 : decode cX8_keep 80 = .ok (.goto (-29), 3) := by decide +kernel
theorem dX8_keep_83 : decode cX8_keep 83 = .ok (.aload_n 0, 1) := by decide +kernel
theorem dX8_keep_84 : decode cX8_keep 84 = .ok (.dup, 1) := by decide +kernel
theorem dX8_keep_85 : decode cX8_keep 85 = .ok (.getfield 146, 3) := by decide +kernel
theorem dX8_keep_88 : decode cX8_keep 88 = .ok (.iconst 1, 1) := by decide +kernel
theorem dX8_keep_89 : decode cX8_keep 89 = .ok (.iadd, 1) := by decide +kernel
theorem dX8_keep_90 : decode cX8_keep 90 = .ok (.putfield 146, 3) := by decide +kernel
theorem dX8_keep_93 : decode cX8_keep 93 = .ok (.return_, 1) := by decide +kernel
theorem dX8_days_0 : decode cX8_days 0 = .ok (.aload_n 0, 1) := by decide +kernel
theorem dX8_days_1 : decode cX8_days 1 = .ok (.iconst 0, 1) := by decide +kernel
theorem dX8_days_2 : decode cX8_days 2 = .ok (.putfield 44, 3) := by decide +kernel
theorem dX8_days_5 : decode cX8_days 5 = .ok (.aload_n 0, 1) := by decide +kernel
theorem dX8_days_6 : decode cX8_days 6 = .ok (.invokevirtual 167, 3) := by decide +kernel
theorem dX8_days_9 : decode cX8_days 9 = .ok (.ifCond .ne 6, 3) := by decide +kernel
theorem dX8_days_12 : decode cX8_days 12 = .ok (.ldc 170, 2) := by decide +kernel
theorem dX8_days_14 : decode cX8_days 14 = .ok (.ireturn, 1) := by decide +kernel
theorem dX8_days_15 : decode cX8_days 15 = .ok (.iload_n 1, 1) := by decide +kernel
theorem dX8_days_16 : decode cX8_days 16 = .ok (.i2l, 1) := by decide +kernel
theorem dX8_days_17 : decode cX8_days 17 = .ok (.lconst 1, 1) := by decide +kernel
theorem dX8_days_18 : decode cX8_days 18 = .ok (.ldc2_w 171, 3) := by decide +kernel
theorem dX8_days_21 : decode cX8_days 21 = .ok (.invokestatic 54, 3) := by decide +kernel
theorem dX8_days_24 : decode cX8_days 24 = .ok (.ifCond .ne 6, 3) := by decide +kernel
theorem dX8_days_27 : decode cX8_days 27 = .ok (.ldc 64, 2) := by decide +kernel
theorem dX8_days_29 : decode cX8_days 29 = .ok (.ireturn, 1) := by decide +kernel
theorem dX8_days_30 : decode cX8_days 30 = .ok (.aload_n 0, 1) := by decide +kernel
theorem dX8_days_31 : decode cX8_days 31 = .ok (.getfield 19, 3) := by decide +kernel
theorem dX8_days_34 : decode cX8_days 34 = .ok (.iconst 4, 1) := by decide +kernel
theorem dX8_days_35 : decode cX8_days 35 = .ok (.iaload, 1) := by decide +kernel
theorem dX8_days_36 : decode cX8_days 36 = .ok (.iload_n 1, 1) := by decide +kernel
theorem dX8_days_37 : decode cX8_days 37 = .ok (.iadd, 1) := by decide +kernel
theorem dX8_days_38 : decode cX8_days 38 = .ok (.sipush 999, 3) := by decide +kernel
theorem dX8_days_41 : decode cX8_days 41 = .ok (.if_icmp .le 6, 3) := by decide +kernel
theorem dX8_days_44 : decode cX8_days 44 = .ok (.ldc 74, 2) := by decide +kernel
theorem dX8_days_46 : decode cX8_days 46 = .ok (.ireturn, 1) := by decide +kernel
theorem dX8_days_47 : decode cX8_days 47 = .ok (.iconst 0, 1) := by decide +kernel
theorem dX8_days_48 : decode cX8_days 48 = .ok (.istore_n 2, 1) := by decide +kernel
theorem dX8_days_49 : decode cX8_days 49 = .ok (.iconst 0, 1) := by decide +kernel
theorem dX8_days_50 : decode cX8_days 50 = .ok (.istore_n 3, 1) := by decide +kernel
theorem dX8_days_51 : decode cX8_days 51 = .ok (.iload_n 3, 1) := by decide +kernel
theorem dX8_days_52 : decode cX8_days 52 = .ok (.iload_n 1, 1) := by decide +kernel
theorem dX8_days_53 : decode cX8_days 53 = .ok (.if_icmp .ge 24, 3) := by decide +kernel
theorem dX8_days_56 : decode cX8_days 56 = .ok (.aload_n 0, 1) := by decide +kernel
theorem dX8_days_57 : decode cX8_days 57 = .ok (.invokevirtual 173, 3) := by decide +kernel
theorem dX8_days_60 : decode cX8_days 60 = .ok (.iload_n 2, 1) := by decide +kernel
theorem dX8_days_61 : decode cX8_days 61 = .ok (.aload_n 0, 1) := by decide +kernel
theorem dX8_days_62 : decode cX8_days 62 = .ok (.getfield 19, 3) := by decide +kernel
theorem dX8_days_65 : decode cX8_days 65 = .ok (.iconst 0, 1) := by decide +kernel
theorem dX8_days_66 : decode cX8_days 66 = .ok (.invokestatic 164, 3) := by decide +kernel
theorem dX8_days_69 : decode cX8_days 69 = .ok (.iadd, 1) := by decide +kernel
theorem dX8_days_70 : decode cX8_days 70 = .ok (.istore_n 2, 1) := by decide +kernel
theorem dX8_days_71 : decode cX8_days 71 = .ok (.iinc 3 1, 3) := by decide +kernel
theorem dX8_days_74 : decode cX8_days 74 = .ok (.goto (-23), 3) := by decide +kernel
theorem dX8_days_77 : decode cX8_days 77 = .ok (.iload_n 2, 1) := by decide +kernel
theorem dX8_days_78 : decode cX8_days 78 = .ok (.ireturn, 1) := by decide +kernel
theorem dX8_carry_0 : decode cX8_carry 0 = .ok (.aload_n 0, 1) := by decide +kernel
theorem dX8_carry_1 : decode cX8_carry 1 = .ok (.iconst 0, 1) := by decide +kernel
theorem dX8_carry_2 : decode cX8_carry 2 = .ok (.putfield 44, 3) := by decide +kernel
theorem dX8_carry_5 : decode cX8_carry 5 = .ok (.aload_n 0, 1) := by decide +kernel
theorem dX8_carry_6 : decode cX8_carry 6 = .ok (.iload_n 1, 1) := by decide +kernel
theorem dX8_carry_7 : decode cX8_carry 7 = .ok (.invokevirtual 176, 3) := by decide +kernel
theorem dX8_carry_10 : decode cX8_carry 10 = .ok (.ifCond .eq 11, 3) := by decide +kernel
theorem dX8_carry_13 : decode cX8_carry 13 = .ok (.aload_n 0, 1) := by decide +kernel
theorem dX8_carry_14 : decode cX8_carry 14 = .ok (.iload_n 2, 1) := by decide +kernel
theorem dX8_carry_15 : decode cX8_carry 15 = .ok (.invokevirtual 179, 3) := by decide +kernel
theorem dX8_carry_18 : decode cX8_carry 18 = .ok (.ifCond .ne 6, 3) := by decide +kernel
theorem dX8_carry_21 : decode cX8_carry 21 = .ok (.ldc 64, 2) := by decide +kernel
theorem dX8_carry_23 : decode cX8_carry 23 = .ok (.ireturn, 1) := by decide +kernel
theorem dX8_carry_24 : decode cX8_carry 24 = .ok (.aload_n 0, 1) := by decide +kernel
theorem dX8_carry_25 : decode cX8_carry 25 = .ok (.invokevirtual 173, 3) := by decide +kernel
theorem dX8_carry_28 : decode cX8_carry 28 = .ok (.aload_n 0, 1) := by decide +kernel
theorem dX8_carry_29 : decode cX8_carry 29 = .ok (.getfield 19, 3) := by decide +kernel
theorem dX8_carry_32 : decode cX8_carry 32 = .ok (.bipush 6, 2) := by decide +kernel
theorem dX8_carry_34 : decode cX8_carry 34 = .ok (.iconst 2, 1) := by decide +kernel
theorem dX8_carry_35 : decode cX8_carry 35 = .ok (.iload_n 1, 1) := by decide +kernel
theorem dX8_carry_36 : decode cX8_carry 36 = .ok (.imul, 1) := by decide +kernel
theorem dX8_carry_37 : decode cX8_carry 37 = .ok (.iadd, 1) := by decide +kernel
theorem dX8_carry_38 : decode cX8_carry 38 = .ok (.iaload, 1) := by decide +kernel
theorem dX8_carry_39 : decode cX8_carry 39 = .ok (.istore_n 3, 1) := by decide +kernel
theorem dX8_carry_40 : decode cX8_carry 40 = .ok (.aload_n 0, 1) := by decide +kernel
theorem dX8_carry_41 : decode cX8_carry 41 = .ok (.getfield 19, 3) := by decide +kernel
theorem dX8_carry_44 : decode cX8_carry 44 = .ok (.bipush 6, 2) := by decide +kernel
theorem dX8_carry_46 : decode cX8_carry 46 = .ok (.iconst 2, 1) := by decide +kernel
theorem dX8_carry_47 : decode cX8_carry 47 = .ok (.iload_n 1, 1) := by decide +kernel
theorem dX8_carry_48 : decode cX8_carry 48 = .ok (.imul, 1) := by decide +kernel
theorem dX8_carry_49 : decode cX8_carry 49 = .ok (.iadd, 1) := by decide +kernel
theorem dX8_carry_50 : decode cX8_carry 50 = .ok (.iload_n 2, 1) := by decide +kernel
theorem dX8_carry_51 : decode cX8_carry 51 = .ok (.iastore, 1) := by decide +kernel
theorem dX8_carry_52 : decode cX8_carry 52 = .ok (.iload_n 3, 1) := by decide +kernel
theorem dX8_carry_53 : decode cX8_carry 53 = .ok (.ireturn, 1) := by decide +kernel
theorem dX8_nail_0 : decode cX8_nail 0 = .ok (.aload_n 0, 1) := by decide +kernel
theorem dX8_nail_1 : decode cX8_nail 1 = .ok (.iconst 0, 1) := by decide +kernel
theorem dX8_nail_2 : decode cX8_nail 2 = .ok (.putfield 44, 3) := by decide +kernel
theorem dX8_nail_5 : decode cX8_nail 5 = .ok (.aload_n 0, 1) := by decide +kernel
theorem dX8_nail_6 : decode cX8_nail 6 = .ok (.iload_n 1, 1) := by decide +kernel
theorem dX8_nail_7 : decode cX8_nail 7 = .ok (.invokevirtual 176, 3) := by decide +kernel
theorem dX8_nail_10 : decode cX8_nail 10 = .ok (.ifCond .eq 13, 3) := by decide +kernel
theorem dX8_nail_13 : decode cX8_nail 13 = .ok (.iload_n 2, 1) := by decide +kernel
theorem dX8_nail_14 : decode cX8_nail 14 = .ok (.i2l, 1) := by decide +kernel
theorem dX8_nail_15 : decode cX8_nail 15 = .ok (.lconst 0, 1) := by decide +kernel
theorem dX8_nail_16 : decode cX8_nail 16 = .ok (.lconst 1, 1) := by decide +kernel
theorem dX8_nail_17 : decode cX8_nail 17 = .ok (.invokestatic 54, 3) := by decide +kernel
theorem dX8_nail_20 : decode cX8_nail 20 = .ok (.ifCond .ne 6, 3) := by decide +kernel
theorem dX8_nail_23 : decode cX8_nail 23 = .ok (.ldc 64, 2) := by decide +kernel
theorem dX8_nail_25 : decode cX8_nail 25 = .ok (.ireturn, 1) := by decide +kernel
theorem dX8_nail_26 : decode cX8_nail 26 = .ok (.aload_n 0, 1) := by decide +kernel
theorem dX8_nail_27 : decode cX8_nail 27 = .ok (.getfield 19, 3) := by decide +kernel
theorem dX8_nail_30 : decode cX8_nail 30 = .ok (.iconst 5, 1) := by decide +kernel
theorem dX8_nail_31 : decode cX8_nail 31 = .ok (.iaload, 1) := by decide +kernel
theorem dX8_nail_32 : decode cX8_nail 32 = .ok (.iload_n 1, 1) := by decide +kernel
theorem dX8_nail_33 : decode cX8_nail 33 = .ok (.ishr, 1) := by decide +kernel
theorem dX8_nail_34 : decode cX8_nail 34 = .ok (.iconst 1, 1) := by decide +kernel
theorem dX8_nail_35 : decode cX8_nail 35 = .ok (.iand, 1) := by decide +kernel
theorem dX8_nail_36 : decode cX8_nail 36 = .ok (.iload_n 2, 1) := by decide +kernel
theorem dX8_nail_37 : decode cX8_nail 37 = .ok (.if_icmp .ne 6, 3) := by decide +kernel
theorem dX8_nail_40 : decode cX8_nail 40 = .ok (.ldc 170, 2) := by decide +kernel
theorem dX8_nail_42 : decode cX8_nail 42 = .ok (.ireturn, 1) := by decide +kernel
theorem dX8_nail_43 : decode cX8_nail 43 = .ok (.aload_n 0, 1) := by decide +kernel
theorem dX8_nail_44 : decode cX8_nail 44 = .ok (.invokevirtual 173, 3) := by decide +kernel
theorem dX8_nail_47 : decode cX8_nail 47 = .ok (.aload_n 0, 1) := by decide +kernel
theorem dX8_nail_48 : decode cX8_nail 48 = .ok (.getfield 19, 3) := by decide +kernel
theorem dX8_nail_51 : decode cX8_nail 51 = .ok (.iconst 5, 1) := by decide +kernel
theorem dX8_nail_52 : decode cX8_nail 52 = .ok (.dup2, 1) := by decide +kernel
theorem dX8_nail_53 : decode cX8_nail 53 = .ok (.iaload, 1) := by decide +kernel
theorem dX8_nail_54 : decode cX8_nail 54 = .ok (.iconst 1, 1) := by decide +kernel
theorem dX8_nail_55 : decode cX8_nail 55 = .ok (.iload_n 1, 1) := by decide +kernel
theorem dX8_nail_56 : decode cX8_nail 56 = .ok (.ishl, 1) := by decide +kernel
theorem dX8_nail_57 : decode cX8_nail 57 = .ok (.ixor, 1) := by decide +kernel
theorem dX8_nail_58 : decode cX8_nail 58 = .ok (.iastore, 1) := by decide +kernel
theorem dX8_nail_59 : decode cX8_nail 59 = .ok (.aload_n 0, 1) := by decide +kernel
theorem dX8_nail_60 : decode cX8_nail 60 = .ok (.getfield 19, 3) := by decide +kernel
theorem dX8_nail_63 : decode cX8_nail 63 = .ok (.iconst 5, 1) := by decide +kernel
theorem dX8_nail_64 : decode cX8_nail 64 = .ok (.iaload, 1) := by decide +kernel
theorem dX8_nail_65 : decode cX8_nail 65 = .ok (.ireturn, 1) := by decide +kernel
theorem dX8_becomes_0 : decode cX8_becomes 0 = .ok (.aload_n 0, 1) := by decide +kernel
theorem dX8_becomes_1 : decode cX8_becomes 1 = .ok (.getfield 19, 3) := by decide +kernel
theorem dX8_becomes_4 : decode cX8_becomes 4 = .ok (.iload_n 1, 1) := by decide +kernel
theorem dX8_becomes_5 : decode cX8_becomes 5 = .ok (.invokestatic 157, 3) := by decide +kernel
theorem dX8_becomes_8 : decode cX8_becomes 8 = .ok (.ifCond .ne 6, 3) := by decide +kernel
theorem dX8_becomes_11 : decode cX8_becomes 11 = .ok (.ldc 170, 2) := by decide +kernel
theorem dX8_becomes_13 : decode cX8_becomes 13 = .ok (.ireturn, 1) := by decide +kernel
theorem dX8_becomes_14 : decode cX8_becomes 14 = .ok (.aload_n 0, 1) := by decide +kernel
theorem dX8_becomes_15 : decode cX8_becomes 15 = .ok (.invokevirtual 173, 3) := by decide +kernel
theorem dX8_becomes_18 : decode cX8_becomes 18 = .ok (.aload_n 0, 1) := by decide +kernel
theorem dX8_becomes_19 : decode cX8_becomes 19 = .ok (.getfield 19, 3) := by decide +kernel
theorem dX8_becomes_22 : decode cX8_becomes 22 = .ok (.iload_n 1, 1) := by decide +kernel
theorem dX8_becomes_23 : decode cX8_becomes 23 = .ok (.iload_n 2, 1) := by decide +kernel
theorem dX8_becomes_24 : decode cX8_becomes 24 = .ok (.invokestatic 149, 3) := by decide +kernel
theorem dX8_becomes_27 : decode cX8_becomes 27 = .ok (.istore 4, 2) := by decide +kernel
theorem dX8_becomes_29 : decode cX8_becomes 29 = .ok (.aload_n 0, 1) := by decide +kernel
theorem dX8_becomes_30 : decode cX8_becomes 30 = .ok (.getfield 19, 3) := by decide +kernel
theorem dX8_becomes_33 : decode cX8_becomes 33 = .ok (.bipush 16, 2) := by decide +kernel
theorem dX8_becomes_35 : decode cX8_becomes 35 = .ok (.bipush 6, 2) := by decide +kernel
theorem dX8_becomes_37 : decode cX8_becomes 37 = .ok (.iload_n 1, 1) := by decide +kernel
theorem dX8_becomes_38 : decode cX8_becomes 38 = .ok (.imul, 1) := by decide +kernel
theorem dX8_becomes_39 : decode cX8_becomes 39 = .ok (.iadd, 1) := by decide +kernel
theorem dX8_becomes_40 : decode cX8_becomes 40 = .ok (.iload_n 2, 1) := by decide +kernel
theorem dX8_becomes_41 : decode cX8_becomes 41 = .ok (.iadd, 1) := by decide +kernel
theorem dX8_becomes_42 : decode cX8_becomes 42 = .ok (.iload_n 3, 1) := by decide +kernel
theorem dX8_becomes_43 : decode cX8_becomes 43 = .ok (.iastore, 1) := by decide +kernel
theorem dX8_becomes_44 : decode cX8_becomes 44 = .ok (.iload 4, 2) := by decide +kernel
theorem dX8_becomes_46 : decode cX8_becomes 46 = .ok (.ireturn, 1) := by decide +kernel
theorem dX8_keepIn_0 : decode cX8_keepIn 0 = .ok (.aload_n 0, 1) := by decide +kernel
theorem dX8_keepIn_1 : decode cX8_keepIn 1 = .ok (.iconst 0, 1) := by decide +kernel
theorem dX8_keepIn_2 : decode cX8_keepIn 2 = .ok (.putfield 44, 3) := by decide +kernel
theorem dX8_keepIn_5 : decode cX8_keepIn 5 = .ok (.aload_n 0, 1) := by decide +kernel
theorem dX8_keepIn_6 : decode cX8_keepIn 6 = .ok (.iload_n 1, 1) := by decide +kernel
theorem dX8_keepIn_7 : decode cX8_keepIn 7 = .ok (.invokevirtual 182, 3) := by decide +kernel
theorem dX8_keepIn_10 : decode cX8_keepIn 10 = .ok (.ifCond .eq 25, 3) := by decide +kernel
theorem dX8_keepIn_13 : decode cX8_keepIn 13 = .ok (.iload_n 2, 1) := by decide +kernel
theorem dX8_keepIn_14 : decode cX8_keepIn 14 = .ok (.i2l, 1) := by decide +kernel
theorem dX8_keepIn_15 : decode cX8_keepIn 15 = .ok (.lconst 0, 1) := by decide +kernel
theorem dX8_keepIn_16 : decode cX8_keepIn 16 = .ok (.ldc2_w 185, 3) := by decide +kernel
theorem dX8_keepIn_19 : decode cX8_keepIn 19 = .ok (.invokestatic 54, 3) := by decide +kernel
theorem dX8_keepIn_22 : decode cX8_keepIn 22 = .ok (.ifCond .eq 13, 3) := by decide +kernel
theorem dX8_keepIn_25 : decode cX8_keepIn 25 = .ok (.aload_n 0, 1) := by decide +kernel
theorem dX8_keepIn_26 : decode cX8_keepIn 26 = .ok (.iload_n 1, 1) := by decide +kernel
theorem dX8_keepIn_27 : decode cX8_keepIn 27 = .ok (.iconst 4, 1) := by decide +kernel
theorem dX8_keepIn_28 : decode cX8_keepIn 28 = .ok (.iload_n 2, 1) := by decide +kernel
theorem dX8_keepIn_29 : decode cX8_keepIn 29 = .ok (.invokevirtual 187, 3) := by decide +kernel
theorem dX8_keepIn_32 : decode cX8_keepIn 32 = .ok (.goto 5, 3) := by decide +kernel
theorem dX8_keepIn_35 : decode cX8_keepIn 35 = .ok (.ldc 64, 2) := by decide +kernel
theorem dX8_keepIn_37 : decode cX8_keepIn 37 = .ok (.ireturn, 1) := by decide +kernel
theorem dX8_call_0 : decode cX8_call 0 = .ok (.aload_n 0, 1) := by decide +kernel
theorem dX8_call_1 : decode cX8_call 1 = .ok (.iconst 0, 1) := by decide +kernel
theorem dX8_call_2 : decode cX8_call 2 = .ok (.putfield 44, 3) := by decide +kernel
theorem dX8_call_5 : decode cX8_call 5 = .ok (.aload_n 0, 1) := by decide +kernel
theorem dX8_call_6 : decode cX8_call 6 = .ok (.iload_n 1, 1) := by decide +kernel
theorem dX8_call_7 : decode cX8_call 7 = .ok (.invokevirtual 182, 3) := by decide +kernel
theorem dX8_call_10 : decode cX8_call 10 = .ok (.ifCond .eq 21, 3) := by decide +kernel
theorem dX8_call_13 : decode cX8_call 13 = .ok (.aload_n 0, 1) := by decide +kernel
theorem dX8_call_14 : decode cX8_call 14 = .ok (.iload_n 2, 1) := by decide +kernel
theorem dX8_call_15 : decode cX8_call 15 = .ok (.invokevirtual 176, 3) := by decide +kernel
theorem dX8_call_18 : decode cX8_call 18 = .ok (.ifCond .eq 13, 3) := by decide +kernel
theorem dX8_call_21 : decode cX8_call 21 = .ok (.aload_n 0, 1) := by decide +kernel
theorem dX8_call_22 : decode cX8_call 22 = .ok (.iload_n 1, 1) := by decide +kernel
theorem dX8_call_23 : decode cX8_call 23 = .ok (.iconst 1, 1) := by decide +kernel
theorem dX8_call_24 : decode cX8_call 24 = .ok (.iload_n 2, 1) := by decide +kernel
theorem dX8_call_25 : decode cX8_call 25 = .ok (.invokevirtual 187, 3) := by decide +kernel
theorem dX8_call_28 : decode cX8_call 28 = .ok (.goto 5, 3) := by decide +kernel
theorem dX8_call_31 : decode cX8_call 31 = .ok (.ldc 64, 2) := by decide +kernel
theorem dX8_call_33 : decode cX8_call 33 = .ok (.ireturn, 1) := by decide +kernel
theorem dX8_move_0 : decode cX8_move 0 = .ok (.aload_n 0, 1) := by decide +kernel
theorem dX8_move_1 : decode cX8_move 1 = .ok (.iconst 0, 1) := by decide +kernel
theorem dX8_move_2 : decode cX8_move 2 = .ok (.putfield 44, 3) := by decide +kernel
theorem dX8_move_5 : decode cX8_move 5 = .ok (.aload_n 0, 1) := by decide +kernel
theorem dX8_move_6 : decode cX8_move 6 = .ok (.iload_n 1, 1) := by decide +kernel
theorem dX8_move_7 : decode cX8_move 7 = .ok (.invokevirtual 182, 3) := by decide +kernel
theorem dX8_move_10 : decode cX8_move 10 = .ok (.ifCond .eq 21, 3) := by decide +kernel
theorem dX8_move_13 : decode cX8_move 13 = .ok (.aload_n 0, 1) := by decide +kernel
theorem dX8_move_14 : decode cX8_move 14 = .ok (.iload_n 2, 1) := by decide +kernel
theorem dX8_move_15 : decode cX8_move 15 = .ok (.invokevirtual 179, 3) := by decide +kernel
theorem dX8_move_18 : decode cX8_move 18 = .ok (.ifCond .eq 13, 3) := by decide +kernel
theorem dX8_move_21 : decode cX8_move 21 = .ok (.aload_n 0, 1) := by decide +kernel
theorem dX8_move_22 : decode cX8_move 22 = .ok (.iload_n 1, 1) := by decide +kernel
theorem dX8_move_23 : decode cX8_move 23 = .ok (.iconst 2, 1) := by decide +kernel
theorem dX8_move_24 : decode cX8_move 24 = .ok (.iload_n 2, 1) := by decide +kernel
theorem dX8_move_25 : decode cX8_move 25 = .ok (.invokevirtual 187, 3) := by decide +kernel
theorem dX8_move_28 : decode cX8_move 28 = .ok (.goto 5, 3) := by decide +kernel
theorem dX8_move_31 : decode cX8_move 31 = .ok (.ldc 64, 2) := by decide +kernel
theorem dX8_move_33 : decode cX8_move 33 = .ok (.ireturn, 1) := by decide +kernel
theorem dX8_undo_0 : decode cX8_undo 0 = .ok (.aload_n 0, 1) := by decide +kernel
theorem dX8_undo_1 : decode cX8_undo 1 = .ok (.iconst 0, 1) := by decide +kernel
theorem dX8_undo_2 : decode cX8_undo 2 = .ok (.putfield 44, 3) := by decide +kernel
theorem dX8_undo_5 : decode cX8_undo 5 = .ok (.aload_n 0, 1) := by decide +kernel
theorem dX8_undo_6 : decode cX8_undo 6 = .ok (.getfield 146, 3) := by decide +kernel
theorem dX8_undo_9 : decode cX8_undo 9 = .ok (.ifCond .ne 6, 3) := by decide +kernel
theorem dX8_undo_12 : decode cX8_undo 12 = .ok (.ldc 170, 2) := by decide +kernel
theorem dX8_undo_14 : decode cX8_undo 14 = .ok (.ireturn, 1) := by decide +kernel
theorem dX8_undo_15 : decode cX8_undo 15 = .ok (.aload_n 0, 1) := by decide +kernel
theorem dX8_undo_16 : decode cX8_undo 16 = .ok (.dup, 1) := by decide +kernel
theorem dX8_undo_17 : decode cX8_undo 17 = .ok (.getfield 146, 3) := by decide +kernel
theorem dX8_undo_20 : decode cX8_undo 20 = .ok (.iconst 1, 1) := by decide +kernel
theorem dX8_undo_21 : decode cX8_undo 21 = .ok (.isub, 1) := by decide +kernel
theorem dX8_undo_22 : decode cX8_undo 22 = .ok (.putfield 146, 3) := by decide +kernel
theorem dX8_undo_25 : decode cX8_undo 25 = .ok (.iconst 0, 1) := by decide +kernel
theorem dX8_undo_26 : decode cX8_undo 26 = .ok (.istore_n 1, 1) := by decide +kernel
theorem dX8_undo_27 : decode cX8_undo 27 = .ok (.iload_n 1, 1) := by decide +kernel
theorem dX8_undo_28 : decode cX8_undo 28 = .ok (.bipush 58, 2) := by decide +kernel
theorem dX8_undo_30 : decode cX8_undo 30 = .ok (.if_icmp .ge 29, 3) := by decide +kernel
theorem dX8_undo_33 : decode cX8_undo 33 = .ok (.aload_n 0, 1) := by decide +kernel
theorem dX8_undo_34 : decode cX8_undo 34 = .ok (.getfield 19, 3) := by decide +kernel
theorem dX8_undo_37 : decode cX8_undo 37 = .ok (.iload_n 1, 1) := by decide +kernel
theorem dX8_undo_38 : decode cX8_undo 38 = .ok (.aload_n 0, 1) := by decide +kernel
theorem dX8_undo_39 : decode cX8_undo 39 = .ok (.getfield 28, 3) := by decide +kernel
theorem dX8_undo_42 : decode cX8_undo 42 = .ok (.bipush 58, 2) := by decide +kernel
theorem dX8_undo_44 : decode cX8_undo 44 = .ok (.aload_n 0, 1) := by decide +kernel
theorem dX8_undo_45 : decode cX8_undo 45 = .ok (.getfield 146, 3) := by decide +kernel
theorem dX8_undo_48 : decode cX8_undo 48 = .ok (.imul, 1) := by decide +kernel
theorem dX8_undo_49 : decode cX8_undo 49 = .ok (.iload_n 1, 1) := by decide +kernel
theorem dX8_undo_50 : decode cX8_undo 50 = .ok (.iadd, 1) := by decide +kernel
theorem dX8_undo_51 : decode cX8_undo 51 = .ok (.iaload, 1) := by decide +kernel
theorem dX8_undo_52 : decode cX8_undo 52 = .ok (.iastore, 1) := by decide +kernel
theorem dX8_undo_53 : decode cX8_undo 53 = .ok (.iinc 1 1, 3) := by decide +kernel
theorem dX8_undo_56 : decode cX8_undo 56 = .ok (.goto (-29), 3) := by decide +kernel
theorem dX8_undo_59 : decode cX8_undo 59 = .ok (.aload_n 0, 1) := by decide +kernel
theorem dX8_undo_60 : decode cX8_undo 60 = .ok (.getfield 146, 3) := by decide +kernel
theorem dX8_undo_63 : decode cX8_undo 63 = .ok (.ireturn, 1) := by decide +kernel
theorem dX8_person_0 : decode cX8_person 0 = .ok (.aload_n 0, 1) := by decide +kernel
theorem dX8_person_1 : decode cX8_person 1 = .ok (.iconst 0, 1) := by decide +kernel
theorem dX8_person_2 : decode cX8_person 2 = .ok (.putfield 44, 3) := by decide +kernel
theorem dX8_person_5 : decode cX8_person 5 = .ok (.aload_n 0, 1) := by decide +kernel
theorem dX8_person_6 : decode cX8_person 6 = .ok (.iload_n 1, 1) := by decide +kernel
theorem dX8_person_7 : decode cX8_person 7 = .ok (.invokevirtual 182, 3) := by decide +kernel
theorem dX8_person_10 : decode cX8_person 10 = .ok (.ifCond .ne 6, 3) := by decide +kernel
theorem dX8_person_13 : decode cX8_person 13 = .ok (.ldc 64, 2) := by decide +kernel
theorem dX8_person_15 : decode cX8_person 15 = .ok (.ireturn, 1) := by decide +kernel
theorem dX8_person_16 : decode cX8_person 16 = .ok (.iload_n 2, 1) := by decide +kernel
theorem dX8_person_17 : decode cX8_person 17 = .ok (.tableswitch 124 0 5 #[39, 49, 59, 69, 86, 96], 39) := by decide +kernel
theorem dX8_person_56 : decode cX8_person 56 = .ok (.aload_n 0, 1) := by decide +kernel
theorem dX8_person_57 : decode cX8_person 57 = .ok (.getfield 19, 3) := by decide +kernel
theorem dX8_person_60 : decode cX8_person 60 = .ok (.iload_n 1, 1) := by decide +kernel
theorem dX8_person_61 : decode cX8_person 61 = .ok (.iconst 1, 1) := by decide +kernel
theorem dX8_person_62 : decode cX8_person 62 = .ok (.invokestatic 149, 3) := by decide +kernel
theorem dX8_person_65 : decode cX8_person 65 = .ok (.ireturn, 1) := by decide +kernel
theorem dX8_person_66 : decode cX8_person 66 = .ok (.aload_n 0, 1) := by decide +kernel
theorem dX8_person_67 : decode cX8_person 67 = .ok (.getfield 19, 3) := by decide +kernel
theorem dX8_person_70 : decode cX8_person 70 = .ok (.iload_n 1, 1) := by decide +kernel
theorem dX8_person_71 : decode cX8_person 71 = .ok (.iconst 2, 1) := by decide +kernel
theorem dX8_person_72 : decode cX8_person 72 = .ok (.invokestatic 149, 3) := by decide +kernel
theorem dX8_person_75 : decode cX8_person 75 = .ok (.ireturn, 1) := by decide +kernel
theorem dX8_person_76 : decode cX8_person 76 = .ok (.aload_n 0, 1) := by decide +kernel
theorem dX8_person_77 : decode cX8_person 77 = .ok (.getfield 19, 3) := by decide +kernel
theorem dX8_person_80 : decode cX8_person 80 = .ok (.iload_n 1, 1) := by decide +kernel
theorem dX8_person_81 : decode cX8_person 81 = .ok (.iconst 3, 1) := by decide +kernel
theorem dX8_person_82 : decode cX8_person 82 = .ok (.invokestatic 149, 3) := by decide +kernel
theorem dX8_person_85 : decode cX8_person 85 = .ok (.ireturn, 1) := by decide +kernel
theorem dX8_person_86 : decode cX8_person 86 = .ok (.aload_n 0, 1) := by decide +kernel
theorem dX8_person_87 : decode cX8_person 87 = .ok (.getfield 19, 3) := by decide +kernel
theorem dX8_person_90 : decode cX8_person 90 = .ok (.iload_n 1, 1) := by decide +kernel
theorem dX8_person_91 : decode cX8_person 91 = .ok (.invokestatic 157, 3) := by decide +kernel
theorem dX8_person_94 : decode cX8_person 94 = .ok (.ifCond .eq 7, 3) := by decide +kernel
theorem dX8_person_97 : decode cX8_person 97 = .ok (.iconst 1, 1) := by decide +kernel
theorem dX8_person_98 : decode cX8_person 98 = .ok (.goto 4, 3) := by decide +kernel
theorem dX8_person_101 : decode cX8_person 101 = .ok (.iconst 0, 1) := by decide +kernel
theorem dX8_person_102 : decode cX8_person 102 = .ok (.ireturn, 1) := by decide +kernel
theorem dX8_person_103 : decode cX8_person 103 = .ok (.aload_n 0, 1) := by decide +kernel
theorem dX8_person_104 : decode cX8_person 104 = .ok (.getfield 19, 3) := by decide +kernel
theorem dX8_person_107 : decode cX8_person 107 = .ok (.iload_n 1, 1) := by decide +kernel
theorem dX8_person_108 : decode cX8_person 108 = .ok (.iconst 4, 1) := by decide +kernel
theorem dX8_person_109 : decode cX8_person 109 = .ok (.invokestatic 149, 3) := by decide +kernel
theorem dX8_person_112 : decode cX8_person 112 = .ok (.ireturn, 1) := by decide +kernel
theorem dX8_person_113 : decode cX8_person 113 = .ok (.aload_n 0, 1) := by decide +kernel
theorem dX8_person_114 : decode cX8_person 114 = .ok (.getfield 19, 3) := by decide +kernel
theorem dX8_person_117 : decode cX8_person 117 = .ok (.iload_n 1, 1) := by decide +kernel
theorem dX8_person_118 : decode cX8_person 118 = .ok (.invokestatic 157, 3) := by decide +kernel
theorem dX8_person_121 : decode cX8_person 121 = .ok (.ifCond .eq 8, 3) := by decide +kernel
theorem dX8_person_124 : decode cX8_person 124 = .ok (.ldc 87, 2) := by decide +kernel
theorem dX8_person_126 : decode cX8_person 126 = .ok (.goto 14, 3) := by decide +kernel
theorem dX8_person_129 : decode cX8_person 129 = .ok (.aload_n 0, 1) := by decide +kernel
theorem dX8_person_130 : decode cX8_person 130 = .ok (.getfield 19, 3) := by decide +kernel
theorem dX8_person_133 : decode cX8_person 133 = .ok (.iload_n 1, 1) := by decide +kernel
theorem dX8_person_134 : decode cX8_person 134 = .ok (.iconst 5, 1) := by decide +kernel
theorem dX8_person_135 : decode cX8_person 135 = .ok (.invokestatic 149, 3) := by decide +kernel
theorem dX8_person_138 : decode cX8_person 138 = .ok (.iconst 1, 1) := by decide +kernel
theorem dX8_person_139 : decode cX8_person 139 = .ok (.isub, 1) := by decide +kernel
theorem dX8_person_140 : decode cX8_person 140 = .ok (.ireturn, 1) := by decide +kernel
theorem dX8_person_141 : decode cX8_person 141 = .ok (.ldc 64, 2) := by decide +kernel
theorem dX8_person_143 : decode cX8_person 143 = .ok (.ireturn, 1) := by decide +kernel
theorem dX8_thing_0 : decode cX8_thing 0 = .ok (.aload_n 0, 1) := by decide +kernel
theorem dX8_thing_1 : decode cX8_thing 1 = .ok (.iconst 0, 1) := by decide +kernel
theorem dX8_thing_2 : decode cX8_thing 2 = .ok (.putfield 44, 3) := by decide +kernel
theorem dX8_thing_5 : decode cX8_thing 5 = .ok (.aload_n 0, 1) := by decide +kernel
theorem dX8_thing_6 : decode cX8_thing 6 = .ok (.iload_n 1, 1) := by decide +kernel
theorem dX8_thing_7 : decode cX8_thing 7 = .ok (.invokevirtual 176, 3) := by decide +kernel
theorem dX8_thing_10 : decode cX8_thing 10 = .ok (.ifCond .eq 15, 3) := by decide +kernel
theorem dX8_thing_13 : decode cX8_thing 13 = .ok (.iload_n 2, 1) := by decide +kernel
theorem dX8_thing_14 : decode cX8_thing 14 = .ok (.i2l, 1) := by decide +kernel
theorem dX8_thing_15 : decode cX8_thing 15 = .ok (.lconst 0, 1) := by decide +kernel
theorem dX8_thing_16 : decode cX8_thing 16 = .ok (.ldc2_w 191, 3) := by decide +kernel
theorem dX8_thing_19 : decode cX8_thing 19 = .ok (.invokestatic 54, 3) := by decide +kernel
theorem dX8_thing_22 : decode cX8_thing 22 = .ok (.ifCond .ne 6, 3) := by decide +kernel
theorem dX8_thing_25 : decode cX8_thing 25 = .ok (.ldc 64, 2) := by decide +kernel
theorem dX8_thing_27 : decode cX8_thing 27 = .ok (.ireturn, 1) := by decide +kernel
theorem dX8_thing_28 : decode cX8_thing 28 = .ok (.iconst 0, 1) := by decide +kernel
theorem dX8_thing_29 : decode cX8_thing 29 = .ok (.istore_n 3, 1) := by decide +kernel
theorem dX8_thing_30 : decode cX8_thing 30 = .ok (.iconst 0, 1) := by decide +kernel
theorem dX8_thing_31 : decode cX8_thing 31 = .ok (.istore 4, 2) := by decide +kernel
theorem dX8_thing_33 : decode cX8_thing 33 = .ok (.iload 4, 2) := by decide +kernel
theorem dX8_thing_35 : decode cX8_thing 35 = .ok (.aload_n 0, 1) := by decide +kernel
theorem dX8_thing_36 : decode cX8_thing 36 = .ok (.getfield 19, 3) := by decide +kernel
theorem dX8_thing_39 : decode cX8_thing 39 = .ok (.iconst 3, 1) := by decide +kernel
theorem dX8_thing_40 : decode cX8_thing 40 = .ok (.iaload, 1) := by decide +kernel
theorem dX8_thing_41 : decode cX8_thing 41 = .ok (.if_icmp .ge 34, 3) := by decide +kernel
theorem dX8_thing_44 : decode cX8_thing 44 = .ok (.iload_n 3, 1) := by decide +kernel
theorem dX8_thing_45 : decode cX8_thing 45 = .ok (.aload_n 0, 1) := by decide +kernel
theorem dX8_thing_46 : decode cX8_thing 46 = .ok (.getfield 19, 3) := by decide +kernel
theorem dX8_thing_49 : decode cX8_thing 49 = .ok (.iload 4, 2) := by decide +kernel
theorem dX8_thing_51 : decode cX8_thing 51 = .ok (.iconst 1, 1) := by decide +kernel
theorem dX8_thing_52 : decode cX8_thing 52 = .ok (.invokestatic 149, 3) := by decide +kernel
theorem dX8_thing_55 : decode cX8_thing 55 = .ok (.iload_n 1, 1) := by decide +kernel
theorem dX8_thing_56 : decode cX8_thing 56 = .ok (.if_icmp .ne 10, 3) := by decide +kernel
theorem dX8_thing_59 : decode cX8_thing 59 = .ok (.iconst 1, 1) := by decide +kernel
theorem dX8_thing_60 : decode cX8_thing 60 = .ok (.iload 4, 2) := by decide +kernel
theorem dX8_thing_62 : decode cX8_thing 62 = .ok (.ishl, 1) := by decide +kernel
theorem dX8_thing_63 : decode cX8_thing 63 = .ok (.goto 4, 3) := by decide +kernel
theorem dX8_thing_66 : decode cX8_thing 66 = .ok (.iconst 0, 1) := by decide +kernel
theorem dX8_thing_67 : decode cX8_thing 67 = .ok (.ior, 1) := by decide +kernel
theorem dX8_thing_68 : decode cX8_thing 68 = .ok (.istore_n 3, 1) := by decide +kernel
theorem dX8_thing_69 : decode cX8_thing 69 = .ok (.iinc 4 1, 3) := by decide +kernel
theorem dX8_thing_72 : decode cX8_thing 72 = .ok (.goto (-39), 3) := by decide +kernel
theorem dX8_thing_75 : decode cX8_thing 75 = .ok (.iload_n 2, 1) := by decide +kernel
theorem dX8_thing_76 : decode cX8_thing 76 = .ok (.iconst 2, 1) := by decide +kernel
theorem dX8_thing_77 : decode cX8_thing 77 = .ok (.if_icmp .ge 19, 3) := by decide +kernel
theorem dX8_thing_80 : decode cX8_thing 80 = .ok (.aload_n 0, 1) := by decide +kernel
theorem dX8_thing_81 : decode cX8_thing 81 = .ok (.getfield 19, 3) := by decide +kernel
theorem dX8_thing_84 : decode cX8_thing 84 = .ok (.bipush 6, 2) := by decide +kernel
theorem dX8_thing_86 : decode cX8_thing 86 = .ok (.iconst 2, 1) := by decide +kernel
theorem dX8_thing_87 : decode cX8_thing 87 = .ok (.iload_n 1, 1) := by decide +kernel
theorem dX8_thing_88 : decode cX8_thing 88 = .ok (.imul, 1) := by decide +kernel
theorem dX8_thing_89 : decode cX8_thing 89 = .ok (.iadd, 1) := by decide +kernel
theorem dX8_thing_90 : decode cX8_thing 90 = .ok (.iload_n 2, 1) := by decide +kernel
theorem dX8_thing_91 : decode cX8_thing 91 = .ok (.iadd, 1) := by decide +kernel
theorem dX8_thing_92 : decode cX8_thing 92 = .ok (.iaload, 1) := by decide +kernel
theorem dX8_thing_93 : decode cX8_thing 93 = .ok (.goto 22, 3) := by decide +kernel
theorem dX8_thing_96 : decode cX8_thing 96 = .ok (.iload_n 2, 1) := by decide +kernel
theorem dX8_thing_97 : decode cX8_thing 97 = .ok (.iconst 2, 1) := by decide +kernel
theorem dX8_thing_98 : decode cX8_thing 98 = .ok (.if_icmp .ne 16, 3) := by decide +kernel
theorem dX8_thing_101 : decode cX8_thing 101 = .ok (.aload_n 0, 1) := by decide +kernel
theorem dX8_thing_102 : decode cX8_thing 102 = .ok (.getfield 19, 3) := by decide +kernel
theorem dX8_thing_105 : decode cX8_thing 105 = .ok (.iconst 5, 1) := by decide +kernel
theorem dX8_thing_106 : decode cX8_thing 106 = .ok (.iaload, 1) := by decide +kernel
theorem dX8_thing_107 : decode cX8_thing 107 = .ok (.iload_n 1, 1) := by decide +kernel
theorem dX8_thing_108 : decode cX8_thing 108 = .ok (.ishr, 1) := by decide +kernel
theorem dX8_thing_109 : decode cX8_thing 109 = .ok (.iconst 1, 1) := by decide +kernel
theorem dX8_thing_110 : decode cX8_thing 110 = .ok (.iand, 1) := by decide +kernel
theorem dX8_thing_111 : decode cX8_thing 111 = .ok (.goto 4, 3) := by decide +kernel
theorem dX8_thing_114 : decode cX8_thing 114 = .ok (.iload_n 3, 1) := by decide +kernel
theorem dX8_thing_115 : decode cX8_thing 115 = .ok (.ireturn, 1) := by decide +kernel
theorem dX8_ahead_0 : decode cX8_ahead 0 = .ok (.aload_n 0, 1) := by decide +kernel
theorem dX8_ahead_1 : decode cX8_ahead 1 = .ok (.iconst 0, 1) := by decide +kernel
theorem dX8_ahead_2 : decode cX8_ahead 2 = .ok (.putfield 44, 3) := by decide +kernel
theorem dX8_ahead_5 : decode cX8_ahead 5 = .ok (.aload_n 0, 1) := by decide +kernel
theorem dX8_ahead_6 : decode cX8_ahead 6 = .ok (.iload_n 1, 1) := by decide +kernel
theorem dX8_ahead_7 : decode cX8_ahead 7 = .ok (.invokevirtual 182, 3) := by decide +kernel
theorem dX8_ahead_10 : decode cX8_ahead 10 = .ok (.ifCond .eq 15, 3) := by decide +kernel
theorem dX8_ahead_13 : decode cX8_ahead 13 = .ok (.iload_n 2, 1) := by decide +kernel
theorem dX8_ahead_14 : decode cX8_ahead 14 = .ok (.i2l, 1) := by decide +kernel
theorem dX8_ahead_15 : decode cX8_ahead 15 = .ok (.lconst 0, 1) := by decide +kernel
theorem dX8_ahead_16 : decode cX8_ahead 16 = .ok (.ldc2_w 185, 3) := by decide +kernel
theorem dX8_ahead_19 : decode cX8_ahead 19 = .ok (.invokestatic 54, 3) := by decide +kernel
theorem dX8_ahead_22 : decode cX8_ahead 22 = .ok (.ifCond .ne 6, 3) := by decide +kernel
theorem dX8_ahead_25 : decode cX8_ahead 25 = .ok (.ldc 64, 2) := by decide +kernel
theorem dX8_ahead_27 : decode cX8_ahead 27 = .ok (.ireturn, 1) := by decide +kernel
theorem dX8_ahead_28 : decode cX8_ahead 28 = .ok (.aload_n 0, 1) := by decide +kernel
theorem dX8_ahead_29 : decode cX8_ahead 29 = .ok (.invokevirtual 193, 3) := by decide +kernel
theorem dX8_ahead_32 : decode cX8_ahead 32 = .ok (.aload_n 0, 1) := by decide +kernel
theorem dX8_ahead_33 : decode cX8_ahead 33 = .ok (.getfield 25, 3) := by decide +kernel
theorem dX8_ahead_36 : decode cX8_ahead 36 = .ok (.iload_n 2, 1) := by decide +kernel
theorem dX8_ahead_37 : decode cX8_ahead 37 = .ok (.invokestatic 196, 3) := by decide +kernel
theorem dX8_ahead_40 : decode cX8_ahead 40 = .ok (.istore_n 3, 1) := by decide +kernel
theorem dX8_ahead_41 : decode cX8_ahead 41 = .ok (.aload_n 0, 1) := by decide +kernel
theorem dX8_ahead_42 : decode cX8_ahead 42 = .ok (.getfield 25, 3) := by decide +kernel
theorem dX8_ahead_45 : decode cX8_ahead 45 = .ok (.iload_n 1, 1) := by decide +kernel
theorem dX8_ahead_46 : decode cX8_ahead 46 = .ok (.invokestatic 157, 3) := by decide +kernel
theorem dX8_ahead_49 : decode cX8_ahead 49 = .ok (.ifCond .eq 15, 3) := by decide +kernel
theorem dX8_ahead_52 : decode cX8_ahead 52 = .ok (.aload_n 0, 1) := by decide +kernel
theorem dX8_ahead_53 : decode cX8_ahead 53 = .ok (.getfield 25, 3) := by decide +kernel
theorem dX8_ahead_56 : decode cX8_ahead 56 = .ok (.iload_n 1, 1) := by decide +kernel
theorem dX8_ahead_57 : decode cX8_ahead 57 = .ok (.iconst 2, 1) := by decide +kernel
theorem dX8_ahead_58 : decode cX8_ahead 58 = .ok (.invokestatic 149, 3) := by decide +kernel
theorem dX8_ahead_61 : decode cX8_ahead 61 = .ok (.goto 5, 3) := by decide +kernel
theorem dX8_ahead_64 : decode cX8_ahead 64 = .ok (.ldc 87, 2) := by decide +kernel
theorem dX8_ahead_66 : decode cX8_ahead 66 = .ok (.ireturn, 1) := by decide +kernel
theorem dX8_liveAhead_0 : decode cX8_liveAhead 0 = .ok (.aload_n 0, 1) := by decide +kernel
theorem dX8_liveAhead_1 : decode cX8_liveAhead 1 = .ok (.iconst 0, 1) := by decide +kernel
theorem dX8_liveAhead_2 : decode cX8_liveAhead 2 = .ok (.putfield 44, 3) := by decide +kernel
theorem dX8_liveAhead_5 : decode cX8_liveAhead 5 = .ok (.aload_n 0, 1) := by decide +kernel
theorem dX8_liveAhead_6 : decode cX8_liveAhead 6 = .ok (.invokevirtual 167, 3) := by decide +kernel
theorem dX8_liveAhead_9 : decode cX8_liveAhead 9 = .ok (.ifCond .ne 6, 3) := by decide +kernel
theorem dX8_liveAhead_12 : decode cX8_liveAhead 12 = .ok (.ldc 170, 2) := by decide +kernel
theorem dX8_liveAhead_14 : decode cX8_liveAhead 14 = .ok (.ireturn, 1) := by decide +kernel
theorem dX8_liveAhead_15 : decode cX8_liveAhead 15 = .ok (.iload_n 1, 1) := by decide +kernel
theorem dX8_liveAhead_16 : decode cX8_liveAhead 16 = .ok (.i2l, 1) := by decide +kernel
theorem dX8_liveAhead_17 : decode cX8_liveAhead 17 = .ok (.lconst 0, 1) := by decide +kernel
theorem dX8_liveAhead_18 : decode cX8_liveAhead 18 = .ok (.ldc2_w 185, 3) := by decide +kernel
theorem dX8_liveAhead_21 : decode cX8_liveAhead 21 = .ok (.invokestatic 54, 3) := by decide +kernel
theorem dX8_liveAhead_24 : decode cX8_liveAhead 24 = .ok (.ifCond .ne 6, 3) := by decide +kernel
theorem dX8_liveAhead_27 : decode cX8_liveAhead 27 = .ok (.ldc 64, 2) := by decide +kernel
theorem dX8_liveAhead_29 : decode cX8_liveAhead 29 = .ok (.ireturn, 1) := by decide +kernel
theorem dX8_liveAhead_30 : decode cX8_liveAhead 30 = .ok (.aload_n 0, 1) := by decide +kernel
theorem dX8_liveAhead_31 : decode cX8_liveAhead 31 = .ok (.invokevirtual 193, 3) := by decide +kernel
theorem dX8_liveAhead_34 : decode cX8_liveAhead 34 = .ok (.aload_n 0, 1) := by decide +kernel
theorem dX8_liveAhead_35 : decode cX8_liveAhead 35 = .ok (.getfield 25, 3) := by decide +kernel
theorem dX8_liveAhead_38 : decode cX8_liveAhead 38 = .ok (.iload_n 1, 1) := by decide +kernel
theorem dX8_liveAhead_39 : decode cX8_liveAhead 39 = .ok (.invokestatic 196, 3) := by decide +kernel
theorem dX8_liveAhead_42 : decode cX8_liveAhead 42 = .ok (.istore_n 2, 1) := by decide +kernel
theorem dX8_liveAhead_43 : decode cX8_liveAhead 43 = .ok (.aload_n 0, 1) := by decide +kernel
theorem dX8_liveAhead_44 : decode cX8_liveAhead 44 = .ok (.getfield 25, 3) := by decide +kernel
theorem dX8_liveAhead_47 : decode cX8_liveAhead 47 = .ok (.invokestatic 199, 3) := by decide +kernel
theorem dX8_liveAhead_50 : decode cX8_liveAhead 50 = .ok (.ireturn, 1) := by decide +kernel
theorem dX8_dies_0 : decode cX8_dies 0 = .ok (.aload_n 0, 1) := by decide +kernel
theorem dX8_dies_1 : decode cX8_dies 1 = .ok (.iconst 0, 1) := by decide +kernel
theorem dX8_dies_2 : decode cX8_dies 2 = .ok (.putfield 44, 3) := by decide +kernel
theorem dX8_dies_5 : decode cX8_dies 5 = .ok (.aload_n 0, 1) := by decide +kernel
theorem dX8_dies_6 : decode cX8_dies 6 = .ok (.iload_n 1, 1) := by decide +kernel
theorem dX8_dies_7 : decode cX8_dies 7 = .ok (.invokevirtual 182, 3) := by decide +kernel
theorem dX8_dies_10 : decode cX8_dies 10 = .ok (.ifCond .ne 6, 3) := by decide +kernel
theorem dX8_dies_13 : decode cX8_dies 13 = .ok (.ldc 64, 2) := by decide +kernel
theorem dX8_dies_15 : decode cX8_dies 15 = .ok (.ireturn, 1) := by decide +kernel
theorem dX8_dies_16 : decode cX8_dies 16 = .ok (.aload_n 0, 1) := by decide +kernel
theorem dX8_dies_17 : decode cX8_dies 17 = .ok (.invokevirtual 193, 3) := by decide +kernel
theorem dX8_dies_20 : decode cX8_dies 20 = .ok (.aload_n 0, 1) := by decide +kernel
theorem dX8_dies_21 : decode cX8_dies 21 = .ok (.iload_n 1, 1) := by decide +kernel
theorem dX8_dies_22 : decode cX8_dies 22 = .ok (.invokevirtual 203, 3) := by decide +kernel
theorem dX8_dies_25 : decode cX8_dies 25 = .ok (.ireturn, 1) := by decide +kernel
theorem dX8_diesKept_0 : decode cX8_diesKept 0 = .ok (.iconst 0, 1) := by decide +kernel
theorem dX8_diesKept_1 : decode cX8_diesKept 1 = .ok (.istore_n 3, 1) := by decide +kernel
theorem dX8_diesKept_2 : decode cX8_diesKept 2 = .ok (.iload_n 3, 1) := by decide +kernel
theorem dX8_diesKept_3 : decode cX8_diesKept 3 = .ok (.bipush 60, 2) := by decide +kernel
theorem dX8_diesKept_5 : decode cX8_diesKept 5 = .ok (.if_icmp .gt 61, 3) := by decide +kernel
theorem dX8_diesKept_8 : decode cX8_diesKept 8 = .ok (.aload_n 0, 1) := by decide +kernel
theorem dX8_diesKept_9 : decode cX8_diesKept 9 = .ok (.getfield 25, 3) := by decide +kernel
theorem dX8_diesKept_12 : decode cX8_diesKept 12 = .ok (.iload_n 1, 1) := by decide +kernel
theorem dX8_diesKept_13 : decode cX8_diesKept 13 = .ok (.invokestatic 157, 3) := by decide +kernel
theorem dX8_diesKept_16 : decode cX8_diesKept 16 = .ok (.ifCond .ne 5, 3) := by decide +kernel
theorem dX8_diesKept_19 : decode cX8_diesKept 19 = .ok (.iload_n 3, 1) := by decide +kernel
theorem dX8_diesKept_20 : decode cX8_diesKept 20 = .ok (.ireturn, 1) := by decide +kernel
theorem dX8_diesKept_21 : decode cX8_diesKept 21 = .ok (.aload_n 0, 1) := by decide +kernel
theorem dX8_diesKept_22 : decode cX8_diesKept 22 = .ok (.getfield 25, 3) := by decide +kernel
theorem dX8_diesKept_25 : decode cX8_diesKept 25 = .ok (.bipush 16, 2) := by decide +kernel
theorem dX8_diesKept_27 : decode cX8_diesKept 27 = .ok (.bipush 6, 2) := by decide +kernel
theorem dX8_diesKept_29 : decode cX8_diesKept 29 = .ok (.iload_n 1, 1) := by decide +kernel
theorem dX8_diesKept_30 : decode cX8_diesKept 30 = .ok (.imul, 1) := by decide +kernel
theorem dX8_diesKept_31 : decode cX8_diesKept 31 = .ok (.iadd, 1) := by decide +kernel
theorem dX8_diesKept_32 : decode cX8_diesKept 32 = .ok (.iconst 4, 1) := by decide +kernel
theorem dX8_diesKept_33 : decode cX8_diesKept 33 = .ok (.iadd, 1) := by decide +kernel
theorem dX8_diesKept_34 : decode cX8_diesKept 34 = .ok (.iload_n 3, 1) := by decide +kernel
theorem dX8_diesKept_35 : decode cX8_diesKept 35 = .ok (.bipush 12, 2) := by decide +kernel
theorem dX8_diesKept_37 : decode cX8_diesKept 37 = .ok (.if_icmp .ge 11, 3) := by decide +kernel
theorem dX8_diesKept_40 : decode cX8_diesKept 40 = .ok (.iload_n 2, 1) := by decide +kernel
theorem dX8_diesKept_41 : decode cX8_diesKept 41 = .ok (.iload_n 3, 1) := by decide +kernel
theorem dX8_diesKept_42 : decode cX8_diesKept 42 = .ok (.ishr, 1) := by decide +kernel
theorem dX8_diesKept_43 : decode cX8_diesKept 43 = .ok (.iconst 1, 1) := by decide +kernel
theorem dX8_diesKept_44 : decode cX8_diesKept 44 = .ok (.iand, 1) := by decide +kernel
theorem dX8_diesKept_45 : decode cX8_diesKept 45 = .ok (.goto 4, 3) := by decide +kernel
theorem dX8_diesKept_48 : decode cX8_diesKept 48 = .ok (.iconst 0, 1) := by decide +kernel
theorem dX8_diesKept_49 : decode cX8_diesKept 49 = .ok (.iastore, 1) := by decide +kernel
theorem dX8_diesKept_50 : decode cX8_diesKept 50 = .ok (.aload_n 0, 1) := by decide +kernel
theorem dX8_diesKept_51 : decode cX8_diesKept 51 = .ok (.getfield 25, 3) := by decide +kernel
theorem dX8_diesKept_54 : decode cX8_diesKept 54 = .ok (.iconst 0, 1) := by decide +kernel
theorem dX8_diesKept_55 : decode cX8_diesKept 55 = .ok (.invokestatic 164, 3) := by decide +kernel
theorem dX8_diesKept_58 : decode cX8_diesKept 58 = .ok (.istore 4, 2) := by decide +kernel
theorem dX8_diesKept_60 : decode cX8_diesKept 60 = .ok (.iinc 3 1, 3) := by decide +kernel
theorem dX8_diesKept_63 : decode cX8_diesKept 63 = .ok (.goto (-61), 3) := by decide +kernel
theorem dX8_diesKept_66 : decode cX8_diesKept 66 = .ok (.ldc 87, 2) := by decide +kernel
theorem dX8_diesKept_68 : decode cX8_diesKept 68 = .ok (.ireturn, 1) := by decide +kernel
theorem dX8_keepDays_0 : decode cX8_keepDays 0 = .ok (.aload_n 0, 1) := by decide +kernel
theorem dX8_keepDays_1 : decode cX8_keepDays 1 = .ok (.iconst 0, 1) := by decide +kernel
theorem dX8_keepDays_2 : decode cX8_keepDays 2 = .ok (.putfield 44, 3) := by decide +kernel
theorem dX8_keepDays_5 : decode cX8_keepDays 5 = .ok (.aload_n 0, 1) := by decide +kernel
theorem dX8_keepDays_6 : decode cX8_keepDays 6 = .ok (.iload_n 1, 1) := by decide +kernel
theorem dX8_keepDays_7 : decode cX8_keepDays 7 = .ok (.invokevirtual 182, 3) := by decide +kernel
theorem dX8_keepDays_10 : decode cX8_keepDays 10 = .ok (.ifCond .eq 38, 3) := by decide +kernel
theorem dX8_keepDays_13 : decode cX8_keepDays 13 = .ok (.iload_n 2, 1) := by decide +kernel
theorem dX8_keepDays_14 : decode cX8_keepDays 14 = .ok (.i2l, 1) := by decide +kernel
theorem dX8_keepDays_15 : decode cX8_keepDays 15 = .ok (.lconst 1, 1) := by decide +kernel
theorem dX8_keepDays_16 : decode cX8_keepDays 16 = .ok (.ldc2_w 206, 3) := by decide +kernel
theorem dX8_keepDays_19 : decode cX8_keepDays 19 = .ok (.invokestatic 54, 3) := by decide +kernel
theorem dX8_keepDays_22 : decode cX8_keepDays 22 = .ok (.ifCond .eq 26, 3) := by decide +kernel
theorem dX8_keepDays_25 : decode cX8_keepDays 25 = .ok (.iload_n 3, 1) := by decide +kernel
theorem dX8_keepDays_26 : decode cX8_keepDays 26 = .ok (.i2l, 1) := by decide +kernel
theorem dX8_keepDays_27 : decode cX8_keepDays 27 = .ok (.lconst 0, 1) := by decide +kernel
theorem dX8_keepDays_28 : decode cX8_keepDays 28 = .ok (.ldc2_w 206, 3) := by decide +kernel
theorem dX8_keepDays_31 : decode cX8_keepDays 31 = .ok (.invokestatic 54, 3) := by decide +kernel
theorem dX8_keepDays_34 : decode cX8_keepDays 34 = .ok (.ifCond .eq 14, 3) := by decide +kernel
theorem dX8_keepDays_37 : decode cX8_keepDays 37 = .ok (.iload 4, 2) := by decide +kernel
theorem dX8_keepDays_39 : decode cX8_keepDays 39 = .ok (.i2l, 1) := by decide +kernel
theorem dX8_keepDays_40 : decode cX8_keepDays 40 = .ok (.lconst 0, 1) := by decide +kernel
theorem dX8_keepDays_41 : decode cX8_keepDays 41 = .ok (.lconst 1, 1) := by decide +kernel
theorem dX8_keepDays_42 : decode cX8_keepDays 42 = .ok (.invokestatic 54, 3) := by decide +kernel
theorem dX8_keepDays_45 : decode cX8_keepDays 45 = .ok (.ifCond .ne 6, 3) := by decide +kernel
theorem dX8_keepDays_48 : decode cX8_keepDays 48 = .ok (.ldc 64, 2) := by decide +kernel
theorem dX8_keepDays_50 : decode cX8_keepDays 50 = .ok (.ireturn, 1) := by decide +kernel
theorem dX8_keepDays_51 : decode cX8_keepDays 51 = .ok (.aload_n 0, 1) := by decide +kernel
theorem dX8_keepDays_52 : decode cX8_keepDays 52 = .ok (.getfield 19, 3) := by decide +kernel
theorem dX8_keepDays_55 : decode cX8_keepDays 55 = .ok (.iload_n 1, 1) := by decide +kernel
theorem dX8_keepDays_56 : decode cX8_keepDays 56 = .ok (.invokestatic 157, 3) := by decide +kernel
theorem dX8_keepDays_59 : decode cX8_keepDays 59 = .ok (.ifCond .ne 6, 3) := by decide +kernel
theorem dX8_keepDays_62 : decode cX8_keepDays 62 = .ok (.ldc 170, 2) := by decide +kernel
theorem dX8_keepDays_64 : decode cX8_keepDays 64 = .ok (.ireturn, 1) := by decide +kernel
theorem dX8_keepDays_65 : decode cX8_keepDays 65 = .ok (.ldc 87, 2) := by decide +kernel
theorem dX8_keepDays_67 : decode cX8_keepDays 67 = .ok (.istore 5, 2) := by decide +kernel
theorem dX8_keepDays_69 : decode cX8_keepDays 69 = .ok (.iconst 0, 1) := by decide +kernel
theorem dX8_keepDays_70 : decode cX8_keepDays 70 = .ok (.istore 6, 2) := by decide +kernel
theorem dX8_keepDays_72 : decode cX8_keepDays 72 = .ok (.iconst 0, 1) := by decide +kernel
theorem dX8_keepDays_73 : decode cX8_keepDays 73 = .ok (.istore 7, 2) := by decide +kernel
theorem dX8_keepDays_75 : decode cX8_keepDays 75 = .ok (.iload 7, 2) := by decide +kernel
theorem dX8_keepDays_77 : decode cX8_keepDays 77 = .ok (.iconst 1, 1) := by decide +kernel
theorem dX8_keepDays_78 : decode cX8_keepDays 78 = .ok (.iload_n 2, 1) := by decide +kernel
theorem dX8_keepDays_79 : decode cX8_keepDays 79 = .ok (.ishl, 1) := by decide +kernel
theorem dX8_keepDays_80 : decode cX8_keepDays 80 = .ok (.if_icmp .ge 116, 3) := by decide +kernel
theorem dX8_keepDays_83 : decode cX8_keepDays 83 = .ok (.iload 7, 2) := by decide +kernel
theorem dX8_keepDays_85 : decode cX8_keepDays 85 = .ok (.invokestatic 208, 3) := by decide +kernel
theorem dX8_keepDays_88 : decode cX8_keepDays 88 = .ok (.iload_n 3, 1) := by decide +kernel
theorem dX8_keepDays_89 : decode cX8_keepDays 89 = .ok (.if_icmp .gt 101, 3) := by decide +kernel
theorem dX8_keepDays_92 : decode cX8_keepDays 92 = .ok (.aload_n 0, 1) := by decide +kernel
theorem dX8_keepDays_93 : decode cX8_keepDays 93 = .ok (.invokevirtual 193, 3) := by decide +kernel
theorem dX8_keepDays_96 : decode cX8_keepDays 96 = .ok (.aload_n 0, 1) := by decide +kernel
theorem dX8_keepDays_97 : decode cX8_keepDays 97 = .ok (.iload_n 1, 1) := by decide +kernel
theorem dX8_keepDays_98 : decode cX8_keepDays 98 = .ok (.iload 7, 2) := by decide +kernel
theorem dX8_keepDays_100 : decode cX8_keepDays 100 = .ok (.invokevirtual 211, 3) := by decide +kernel
theorem dX8_keepDays_103 : decode cX8_keepDays 103 = .ok (.istore 8, 2) := by decide +kernel
theorem dX8_keepDays_105 : decode cX8_keepDays 105 = .ok (.iload 8, 2) := by decide +kernel
theorem dX8_keepDays_107 : decode cX8_keepDays 107 = .ok (.ldc 87, 2) := by decide +kernel
theorem dX8_keepDays_109 : decode cX8_keepDays 109 = .ok (.if_icmp .ne 8, 3) := by decide +kernel
theorem dX8_keepDays_112 : decode cX8_keepDays 112 = .ok (.bipush 61, 2) := by decide +kernel
theorem dX8_keepDays_114 : decode cX8_keepDays 114 = .ok (.goto 5, 3) := by decide +kernel
theorem dX8_keepDays_117 : decode cX8_keepDays 117 = .ok (.iload 8, 2) := by decide +kernel
theorem dX8_keepDays_119 : decode cX8_keepDays 119 = .ok (.istore 8, 2) := by decide +kernel
theorem dX8_keepDays_121 : decode cX8_keepDays 121 = .ok (.iload 5, 2) := by decide +kernel
theorem dX8_keepDays_123 : decode cX8_keepDays 123 = .ok (.ldc 87, 2) := by decide +kernel
theorem dX8_keepDays_125 : decode cX8_keepDays 125 = .ok (.if_icmp .eq 30, 3) := by decide +kernel
theorem dX8_keepDays_128 : decode cX8_keepDays 128 = .ok (.iload 8, 2) := by decide +kernel
theorem dX8_keepDays_130 : decode cX8_keepDays 130 = .ok (.iload 6, 2) := by decide +kernel
theorem dX8_keepDays_132 : decode cX8_keepDays 132 = .ok (.if_icmp .gt 23, 3) := by decide +kernel
theorem dX8_keepDays_135 : decode cX8_keepDays 135 = .ok (.iload 8, 2) := by decide +kernel
theorem dX8_keepDays_137 : decode cX8_keepDays 137 = .ok (.iload 6, 2) := by decide +kernel
theorem dX8_keepDays_139 : decode cX8_keepDays 139 = .ok (.if_icmp .ne 20, 3) := by decide +kernel
theorem dX8_keepDays_142 : decode cX8_keepDays 142 = .ok (.iload 7, 2) := by decide +kernel
theorem dX8_keepDays_144 : decode cX8_keepDays 144 = .ok (.invokestatic 208, 3) := by decide +kernel
theorem dX8_keepDays_147 : decode cX8_keepDays 147 = .ok (.iload 5, 2) := by decide +kernel
theorem dX8_keepDays_149 : decode cX8_keepDays 149 = .ok (.invokestatic 208, 3) := by decide +kernel
theorem dX8_keepDays_152 : decode cX8_keepDays 152 = .ok (.if_icmp .ge 7, 3) := by decide +kernel
theorem dX8_keepDays_155 : decode cX8_keepDays 155 = .ok (.iconst 1, 1) := by decide +kernel
theorem dX8_keepDays_156 : decode cX8_keepDays 156 = .ok (.goto 4, 3) := by decide +kernel
theorem dX8_keepDays_159 : decode cX8_keepDays 159 = .ok (.iconst 0, 1) := by decide +kernel
theorem dX8_keepDays_160 : decode cX8_keepDays 160 = .ok (.istore 9, 2) := by decide +kernel
theorem dX8_keepDays_162 : decode cX8_keepDays 162 = .ok (.iload 9, 2) := by decide +kernel
theorem dX8_keepDays_164 : decode cX8_keepDays 164 = .ok (.ifCond .eq 8, 3) := by decide +kernel
theorem dX8_keepDays_167 : decode cX8_keepDays 167 = .ok (.iload 7, 2) := by decide +kernel
theorem dX8_keepDays_169 : decode cX8_keepDays 169 = .ok (.goto 5, 3) := by decide +kernel
theorem dX8_keepDays_172 : decode cX8_keepDays 172 = .ok (.iload 5, 2) := by decide +kernel
theorem dX8_keepDays_174 : decode cX8_keepDays 174 = .ok (.istore 5, 2) := by decide +kernel
theorem dX8_keepDays_176 : decode cX8_keepDays 176 = .ok (.iload 9, 2) := by decide +kernel
theorem dX8_keepDays_178 : decode cX8_keepDays 178 = .ok (.ifCond .eq 8, 3) := by decide +kernel
theorem dX8_keepDays_181 : decode cX8_keepDays 181 = .ok (.iload 8, 2) := by decide +kernel
theorem dX8_keepDays_183 : decode cX8_keepDays 183 = .ok (.goto 5, 3) := by decide +kernel
theorem dX8_keepDays_186 : decode cX8_keepDays 186 = .ok (.iload 6, 2) := by decide +kernel
theorem dX8_keepDays_188 : decode cX8_keepDays 188 = .ok (.istore 6, 2) := by decide +kernel
theorem dX8_keepDays_190 : decode cX8_keepDays 190 = .ok (.iinc 7 1, 3) := by decide +kernel
theorem dX8_keepDays_193 : decode cX8_keepDays 193 = .ok (.goto (-118), 3) := by decide +kernel
theorem dX8_keepDays_196 : decode cX8_keepDays 196 = .ok (.iload 4, 2) := by decide +kernel
theorem dX8_keepDays_198 : decode cX8_keepDays 198 = .ok (.iconst 1, 1) := by decide +kernel
theorem dX8_keepDays_199 : decode cX8_keepDays 199 = .ok (.if_icmp .ne 8, 3) := by decide +kernel
theorem dX8_keepDays_202 : decode cX8_keepDays 202 = .ok (.iload 5, 2) := by decide +kernel
theorem dX8_keepDays_204 : decode cX8_keepDays 204 = .ok (.goto 17, 3) := by decide +kernel
theorem dX8_keepDays_207 : decode cX8_keepDays 207 = .ok (.iload 6, 2) := by decide +kernel
theorem dX8_keepDays_209 : decode cX8_keepDays 209 = .ok (.bipush 60, 2) := by decide +kernel
theorem dX8_keepDays_211 : decode cX8_keepDays 211 = .ok (.if_icmp .le 8, 3) := by decide +kernel
theorem dX8_keepDays_214 : decode cX8_keepDays 214 = .ok (.ldc 87, 2) := by decide +kernel
theorem dX8_keepDays_216 : decode cX8_keepDays 216 = .ok (.goto 5, 3) := by decide +kernel
theorem dX8_keepDays_219 : decode cX8_keepDays 219 = .ok (.iload 6, 2) := by decide +kernel
theorem dX8_keepDays_221 : decode cX8_keepDays 221 = .ok (.ireturn, 1) := by decide +kernel
theorem dX8_nails_0 : decode cX8_nails 0 = .ok (.aload_n 0, 1) := by decide +kernel
theorem dX8_nails_1 : decode cX8_nails 1 = .ok (.iconst 0, 1) := by decide +kernel
theorem dX8_nails_2 : decode cX8_nails 2 = .ok (.putfield 44, 3) := by decide +kernel
theorem dX8_nails_5 : decode cX8_nails 5 = .ok (.aload_n 0, 1) := by decide +kernel
theorem dX8_nails_6 : decode cX8_nails 6 = .ok (.iload_n 1, 1) := by decide +kernel
theorem dX8_nails_7 : decode cX8_nails 7 = .ok (.invokevirtual 182, 3) := by decide +kernel
theorem dX8_nails_10 : decode cX8_nails 10 = .ok (.ifCond .eq 25, 3) := by decide +kernel
theorem dX8_nails_13 : decode cX8_nails 13 = .ok (.iload_n 2, 1) := by decide +kernel
theorem dX8_nails_14 : decode cX8_nails 14 = .ok (.i2l, 1) := by decide +kernel
theorem dX8_nails_15 : decode cX8_nails 15 = .ok (.lconst 1, 1) := by decide +kernel
theorem dX8_nails_16 : decode cX8_nails 16 = .ok (.ldc2_w 185, 3) := by decide +kernel
theorem dX8_nails_19 : decode cX8_nails 19 = .ok (.invokestatic 54, 3) := by decide +kernel
theorem dX8_nails_22 : decode cX8_nails 22 = .ok (.ifCond .eq 13, 3) := by decide +kernel
theorem dX8_nails_25 : decode cX8_nails 25 = .ok (.iload_n 3, 1) := by decide +kernel
theorem dX8_nails_26 : decode cX8_nails 26 = .ok (.i2l, 1) := by decide +kernel
theorem dX8_nails_27 : decode cX8_nails 27 = .ok (.lconst 0, 1) := by decide +kernel
theorem dX8_nails_28 : decode cX8_nails 28 = .ok (.lconst 1, 1) := by decide +kernel
theorem dX8_nails_29 : decode cX8_nails 29 = .ok (.invokestatic 54, 3) := by decide +kernel
theorem dX8_nails_32 : decode cX8_nails 32 = .ok (.ifCond .ne 6, 3) := by decide +kernel
theorem dX8_nails_35 : decode cX8_nails 35 = .ok (.ldc 64, 2) := by decide +kernel
theorem dX8_nails_37 : decode cX8_nails 37 = .ok (.ireturn, 1) := by decide +kernel
theorem dX8_nails_38 : decode cX8_nails 38 = .ok (.aload_n 0, 1) := by decide +kernel
theorem dX8_nails_39 : decode cX8_nails 39 = .ok (.getfield 19, 3) := by decide +kernel
theorem dX8_nails_42 : decode cX8_nails 42 = .ok (.iload_n 1, 1) := by decide +kernel
theorem dX8_nails_43 : decode cX8_nails 43 = .ok (.invokestatic 157, 3) := by decide +kernel
theorem dX8_nails_46 : decode cX8_nails 46 = .ok (.ifCond .ne 6, 3) := by decide +kernel
theorem dX8_nails_49 : decode cX8_nails 49 = .ok (.ldc 170, 2) := by decide +kernel
theorem dX8_nails_51 : decode cX8_nails 51 = .ok (.ireturn, 1) := by decide +kernel
theorem dX8_nails_52 : decode cX8_nails 52 = .ok (.ldc 87, 2) := by decide +kernel
theorem dX8_nails_54 : decode cX8_nails 54 = .ok (.istore 4, 2) := by decide +kernel
theorem dX8_nails_56 : decode cX8_nails 56 = .ok (.iconst 0, 1) := by decide +kernel
theorem dX8_nails_57 : decode cX8_nails 57 = .ok (.istore 5, 2) := by decide +kernel
theorem dX8_nails_59 : decode cX8_nails 59 = .ok (.iload 5, 2) := by decide +kernel
theorem dX8_nails_61 : decode cX8_nails 61 = .ok (.iconst 1, 1) := by decide +kernel
theorem dX8_nails_62 : decode cX8_nails 62 = .ok (.aload_n 0, 1) := by decide +kernel
theorem dX8_nails_63 : decode cX8_nails 63 = .ok (.getfield 19, 3) := by decide +kernel
theorem dX8_nails_66 : decode cX8_nails 66 = .ok (.iconst 2, 1) := by decide +kernel
theorem dX8_nails_67 : decode cX8_nails 67 = .ok (.iaload, 1) := by decide +kernel
theorem dX8_nails_68 : decode cX8_nails 68 = .ok (.ishl, 1) := by decide +kernel
theorem dX8_nails_69 : decode cX8_nails 69 = .ok (.if_icmp .ge 86, 3) := by decide +kernel
theorem dX8_nails_72 : decode cX8_nails 72 = .ok (.iload 5, 2) := by decide +kernel
theorem dX8_nails_74 : decode cX8_nails 74 = .ok (.aload_n 0, 1) := by decide +kernel
theorem dX8_nails_75 : decode cX8_nails 75 = .ok (.getfield 19, 3) := by decide +kernel
theorem dX8_nails_78 : decode cX8_nails 78 = .ok (.iconst 5, 1) := by decide +kernel
theorem dX8_nails_79 : decode cX8_nails 79 = .ok (.iaload, 1) := by decide +kernel
theorem dX8_nails_80 : decode cX8_nails 80 = .ok (.iand, 1) := by decide +kernel
theorem dX8_nails_81 : decode cX8_nails 81 = .ok (.ifCond .ne 68, 3) := by decide +kernel
theorem dX8_nails_84 : decode cX8_nails 84 = .ok (.iload 4, 2) := by decide +kernel
theorem dX8_nails_86 : decode cX8_nails 86 = .ok (.ldc 87, 2) := by decide +kernel
theorem dX8_nails_88 : decode cX8_nails 88 = .ok (.if_icmp .eq 16, 3) := by decide +kernel
theorem dX8_nails_91 : decode cX8_nails 91 = .ok (.iload 5, 2) := by decide +kernel
theorem dX8_nails_93 : decode cX8_nails 93 = .ok (.invokestatic 208, 3) := by decide +kernel
theorem dX8_nails_96 : decode cX8_nails 96 = .ok (.iload 4, 2) := by decide +kernel
theorem dX8_nails_98 : decode cX8_nails 98 = .ok (.invokestatic 208, 3) := by decide +kernel
theorem dX8_nails_101 : decode cX8_nails 101 = .ok (.if_icmp .ge 48, 3) := by decide +kernel
theorem dX8_nails_104 : decode cX8_nails 104 = .ok (.aload_n 0, 1) := by decide +kernel
theorem dX8_nails_105 : decode cX8_nails 105 = .ok (.invokevirtual 193, 3) := by decide +kernel
theorem dX8_nails_108 : decode cX8_nails 108 = .ok (.aload_n 0, 1) := by decide +kernel
theorem dX8_nails_109 : decode cX8_nails 109 = .ok (.getfield 25, 3) := by decide +kernel
theorem dX8_nails_112 : decode cX8_nails 112 = .ok (.iconst 5, 1) := by decide +kernel
theorem dX8_nails_113 : decode cX8_nails 113 = .ok (.dup2, 1) := by decide +kernel
theorem dX8_nails_114 : decode cX8_nails 114 = .ok (.iaload, 1) := by decide +kernel
theorem dX8_nails_115 : decode cX8_nails 115 = .ok (.iload 5, 2) := by decide +kernel
theorem dX8_nails_117 : decode cX8_nails 117 = .ok (.ior, 1) := by decide +kernel
theorem dX8_nails_118 : decode cX8_nails 118 = .ok (.iastore, 1) := by decide +kernel
theorem dX8_nails_119 : decode cX8_nails 119 = .ok (.aload_n 0, 1) := by decide +kernel
theorem dX8_nails_120 : decode cX8_nails 120 = .ok (.getfield 25, 3) := by decide +kernel
theorem dX8_nails_123 : decode cX8_nails 123 = .ok (.iload_n 2, 1) := by decide +kernel
theorem dX8_nails_124 : decode cX8_nails 124 = .ok (.invokestatic 196, 3) := by decide +kernel
theorem dX8_nails_127 : decode cX8_nails 127 = .ok (.istore 6, 2) := by decide +kernel
theorem dX8_nails_129 : decode cX8_nails 129 = .ok (.aload_n 0, 1) := by decide +kernel
theorem dX8_nails_130 : decode cX8_nails 130 = .ok (.getfield 25, 3) := by decide +kernel
theorem dX8_nails_133 : decode cX8_nails 133 = .ok (.iload_n 1, 1) := by decide +kernel
theorem dX8_nails_134 : decode cX8_nails 134 = .ok (.invokestatic 157, 3) := by decide +kernel
theorem dX8_nails_137 : decode cX8_nails 137 = .ok (.ifCond .eq 8, 3) := by decide +kernel
theorem dX8_nails_140 : decode cX8_nails 140 = .ok (.iload 5, 2) := by decide +kernel
theorem dX8_nails_142 : decode cX8_nails 142 = .ok (.goto 5, 3) := by decide +kernel
theorem dX8_nails_145 : decode cX8_nails 145 = .ok (.iload 4, 2) := by decide +kernel
theorem dX8_nails_147 : decode cX8_nails 147 = .ok (.istore 4, 2) := by decide +kernel
theorem dX8_nails_149 : decode cX8_nails 149 = .ok (.iinc 5 1, 3) := by decide +kernel
theorem dX8_nails_152 : decode cX8_nails 152 = .ok (.goto (-93), 3) := by decide +kernel
theorem dX8_nails_155 : decode cX8_nails 155 = .ok (.iload 4, 2) := by decide +kernel
theorem dX8_nails_157 : decode cX8_nails 157 = .ok (.ldc 87, 2) := by decide +kernel
theorem dX8_nails_159 : decode cX8_nails 159 = .ok (.if_icmp .eq 8, 3) := by decide +kernel
theorem dX8_nails_162 : decode cX8_nails 162 = .ok (.iload_n 3, 1) := by decide +kernel
theorem dX8_nails_163 : decode cX8_nails 163 = .ok (.iconst 1, 1) := by decide +kernel
theorem dX8_nails_164 : decode cX8_nails 164 = .ok (.if_icmp .ne 8, 3) := by decide +kernel
theorem dX8_nails_167 : decode cX8_nails 167 = .ok (.iload 4, 2) := by decide +kernel
theorem dX8_nails_169 : decode cX8_nails 169 = .ok (.goto 8, 3) := by decide +kernel
theorem dX8_nails_172 : decode cX8_nails 172 = .ok (.iload 4, 2) := by decide +kernel
theorem dX8_nails_174 : decode cX8_nails 174 = .ok (.invokestatic 208, 3) := by decide +kernel
theorem dX8_nails_177 : decode cX8_nails 177 = .ok (.ireturn, 1) := by decide +kernel
theorem dX8_names_0 : decode cX8_names 0 = .ok (.aload_n 0, 1) := by decide +kernel
theorem dX8_names_1 : decode cX8_names 1 = .ok (.iconst 0, 1) := by decide +kernel
theorem dX8_names_2 : decode cX8_names 2 = .ok (.putfield 44, 3) := by decide +kernel
theorem dX8_names_5 : decode cX8_names 5 = .ok (.aload_n 0, 1) := by decide +kernel
theorem dX8_names_6 : decode cX8_names 6 = .ok (.iload_n 1, 1) := by decide +kernel
theorem dX8_names_7 : decode cX8_names 7 = .ok (.invokevirtual 182, 3) := by decide +kernel
theorem dX8_names_10 : decode cX8_names 10 = .ok (.ifCond .eq 15, 3) := by decide +kernel
theorem dX8_names_13 : decode cX8_names 13 = .ok (.iload_n 2, 1) := by decide +kernel
theorem dX8_names_14 : decode cX8_names 14 = .ok (.i2l, 1) := by decide +kernel
theorem dX8_names_15 : decode cX8_names 15 = .ok (.lconst 1, 1) := by decide +kernel
theorem dX8_names_16 : decode cX8_names 16 = .ok (.ldc2_w 185, 3) := by decide +kernel
theorem dX8_names_19 : decode cX8_names 19 = .ok (.invokestatic 54, 3) := by decide +kernel
theorem dX8_names_22 : decode cX8_names 22 = .ok (.ifCond .ne 6, 3) := by decide +kernel
theorem dX8_names_25 : decode cX8_names 25 = .ok (.ldc 64, 2) := by decide +kernel
theorem dX8_names_27 : decode cX8_names 27 = .ok (.ireturn, 1) := by decide +kernel
theorem dX8_names_28 : decode cX8_names 28 = .ok (.aload_n 0, 1) := by decide +kernel
theorem dX8_names_29 : decode cX8_names 29 = .ok (.getfield 19, 3) := by decide +kernel
theorem dX8_names_32 : decode cX8_names 32 = .ok (.iload_n 1, 1) := by decide +kernel
theorem dX8_names_33 : decode cX8_names 33 = .ok (.invokestatic 157, 3) := by decide +kernel
theorem dX8_names_36 : decode cX8_names 36 = .ok (.ifCond .ne 6, 3) := by decide +kernel
theorem dX8_names_39 : decode cX8_names 39 = .ok (.ldc 170, 2) := by decide +kernel
theorem dX8_names_41 : decode cX8_names 41 = .ok (.ireturn, 1) := by decide +kernel
theorem dX8_names_42 : decode cX8_names 42 = .ok (.iconst 0, 1) := by decide +kernel
theorem dX8_names_43 : decode cX8_names 43 = .ok (.istore_n 3, 1) := by decide +kernel
theorem dX8_names_44 : decode cX8_names 44 = .ok (.iconst 0, 1) := by decide +kernel
theorem dX8_names_45 : decode cX8_names 45 = .ok (.istore 4, 2) := by decide +kernel
theorem dX8_names_47 : decode cX8_names 47 = .ok (.iload 4, 2) := by decide +kernel
theorem dX8_names_49 : decode cX8_names 49 = .ok (.aload_n 0, 1) := by decide +kernel
theorem dX8_names_50 : decode cX8_names 50 = .ok (.getfield 19, 3) := by decide +kernel
theorem dX8_names_53 : decode cX8_names 53 = .ok (.iconst 2, 1) := by decide +kernel
theorem dX8_names_54 : decode cX8_names 54 = .ok (.iaload, 1) := by decide +kernel
theorem dX8_names_55 : decode cX8_names 55 = .ok (.if_icmp .ge 61, 3) := by decide +kernel
theorem dX8_names_58 : decode cX8_names 58 = .ok (.aload_n 0, 1) := by decide +kernel
theorem dX8_names_59 : decode cX8_names 59 = .ok (.invokevirtual 193, 3) := by decide +kernel
theorem dX8_names_62 : decode cX8_names 62 = .ok (.aload_n 0, 1) := by decide +kernel
theorem dX8_names_63 : decode cX8_names 63 = .ok (.getfield 25, 3) := by decide +kernel
theorem dX8_names_66 : decode cX8_names 66 = .ok (.bipush 16, 2) := by decide +kernel
theorem dX8_names_68 : decode cX8_names 68 = .ok (.bipush 6, 2) := by decide +kernel
theorem dX8_names_70 : decode cX8_names 70 = .ok (.iload_n 1, 1) := by decide +kernel
theorem dX8_names_71 : decode cX8_names 71 = .ok (.imul, 1) := by decide +kernel
theorem dX8_names_72 : decode cX8_names 72 = .ok (.iadd, 1) := by decide +kernel
theorem dX8_names_73 : decode cX8_names 73 = .ok (.iconst 1, 1) := by decide +kernel
theorem dX8_names_74 : decode cX8_names 74 = .ok (.iadd, 1) := by decide +kernel
theorem dX8_names_75 : decode cX8_names 75 = .ok (.iload 4, 2) := by decide +kernel
theorem dX8_names_77 : decode cX8_names 77 = .ok (.iastore, 1) := by decide +kernel
theorem dX8_names_78 : decode cX8_names 78 = .ok (.aload_n 0, 1) := by decide +kernel
theorem dX8_names_79 : decode cX8_names 79 = .ok (.getfield 25, 3) := by decide +kernel
theorem dX8_names_82 : decode cX8_names 82 = .ok (.iload_n 2, 1) := by decide +kernel
theorem dX8_names_83 : decode cX8_names 83 = .ok (.invokestatic 196, 3) := by decide +kernel
theorem dX8_names_86 : decode cX8_names 86 = .ok (.istore 5, 2) := by decide +kernel
theorem dX8_names_88 : decode cX8_names 88 = .ok (.iload_n 3, 1) := by decide +kernel
theorem dX8_names_89 : decode cX8_names 89 = .ok (.aload_n 0, 1) := by decide +kernel
theorem dX8_names_90 : decode cX8_names 90 = .ok (.getfield 25, 3) := by decide +kernel
theorem dX8_names_93 : decode cX8_names 93 = .ok (.iload_n 1, 1) := by decide +kernel
theorem dX8_names_94 : decode cX8_names 94 = .ok (.invokestatic 157, 3) := by decide +kernel
theorem dX8_names_97 : decode cX8_names 97 = .ok (.ifCond .eq 10, 3) := by decide +kernel
theorem dX8_names_100 : decode cX8_names 100 = .ok (.iconst 1, 1) := by decide +kernel
theorem dX8_names_101 : decode cX8_names 101 = .ok (.iload 4, 2) := by decide +kernel
theorem dX8_names_103 : decode cX8_names 103 = .ok (.ishl, 1) := by decide +kernel
theorem dX8_names_104 : decode cX8_names 104 = .ok (.goto 4, 3) := by decide +kernel
theorem dX8_names_107 : decode cX8_names 107 = .ok (.iconst 0, 1) := by decide +kernel
theorem dX8_names_108 : decode cX8_names 108 = .ok (.ior, 1) := by decide +kernel
theorem dX8_names_109 : decode cX8_names 109 = .ok (.istore_n 3, 1) := by decide +kernel
theorem dX8_names_110 : decode cX8_names 110 = .ok (.iinc 4 1, 3) := by decide +kernel
theorem dX8_names_113 : decode cX8_names 113 = .ok (.goto (-66), 3) := by decide +kernel
theorem dX8_names_116 : decode cX8_names 116 = .ok (.iload_n 3, 1) := by decide +kernel
theorem dX8_names_117 : decode cX8_names 117 = .ok (.ireturn, 1) := by decide +kernel
theorem dX8_safest_0 : decode cX8_safest 0 = .ok (.aload_n 0, 1) := by decide +kernel
theorem dX8_safest_1 : decode cX8_safest 1 = .ok (.iconst 0, 1) := by decide +kernel
theorem dX8_safest_2 : decode cX8_safest 2 = .ok (.putfield 44, 3) := by decide +kernel
theorem dX8_safest_5 : decode cX8_safest 5 = .ok (.aload_n 0, 1) := by decide +kernel
theorem dX8_safest_6 : decode cX8_safest 6 = .ok (.iload_n 1, 1) := by decide +kernel
theorem dX8_safest_7 : decode cX8_safest 7 = .ok (.invokevirtual 182, 3) := by decide +kernel
theorem dX8_safest_10 : decode cX8_safest 10 = .ok (.ifCond .ne 6, 3) := by decide +kernel
theorem dX8_safest_13 : decode cX8_safest 13 = .ok (.ldc 64, 2) := by decide +kernel
theorem dX8_safest_15 : decode cX8_safest 15 = .ok (.ireturn, 1) := by decide +kernel
theorem dX8_safest_16 : decode cX8_safest 16 = .ok (.aload_n 0, 1) := by decide +kernel
theorem dX8_safest_17 : decode cX8_safest 17 = .ok (.getfield 19, 3) := by decide +kernel
theorem dX8_safest_20 : decode cX8_safest 20 = .ok (.iload_n 1, 1) := by decide +kernel
theorem dX8_safest_21 : decode cX8_safest 21 = .ok (.invokestatic 157, 3) := by decide +kernel
theorem dX8_safest_24 : decode cX8_safest 24 = .ok (.ifCond .ne 6, 3) := by decide +kernel
theorem dX8_safest_27 : decode cX8_safest 27 = .ok (.ldc 170, 2) := by decide +kernel
theorem dX8_safest_29 : decode cX8_safest 29 = .ok (.ireturn, 1) := by decide +kernel
theorem dX8_safest_30 : decode cX8_safest 30 = .ok (.ldc 87, 2) := by decide +kernel
theorem dX8_safest_32 : decode cX8_safest 32 = .ok (.istore_n 2, 1) := by decide +kernel
theorem dX8_safest_33 : decode cX8_safest 33 = .ok (.iconst 0, 1) := by decide +kernel
theorem dX8_safest_34 : decode cX8_safest 34 = .ok (.istore_n 3, 1) := by decide +kernel
theorem dX8_safest_35 : decode cX8_safest 35 = .ok (.iconst 0, 1) := by decide +kernel
theorem dX8_safest_36 : decode cX8_safest 36 = .ok (.istore 4, 2) := by decide +kernel
theorem dX8_safest_38 : decode cX8_safest 38 = .ok (.iload 4, 2) := by decide +kernel
theorem dX8_safest_40 : decode cX8_safest 40 = .ok (.aload_n 0, 1) := by decide +kernel
theorem dX8_safest_41 : decode cX8_safest 41 = .ok (.getfield 19, 3) := by decide +kernel
theorem dX8_safest_44 : decode cX8_safest 44 = .ok (.iconst 0, 1) := by decide +kernel
theorem dX8_safest_45 : decode cX8_safest 45 = .ok (.iaload, 1) := by decide +kernel
theorem dX8_safest_46 : decode cX8_safest 46 = .ok (.if_icmp .ge 95, 3) := by decide +kernel
theorem dX8_safest_49 : decode cX8_safest 49 = .ok (.aload_n 0, 1) := by decide +kernel
theorem dX8_safest_50 : decode cX8_safest 50 = .ok (.invokevirtual 193, 3) := by decide +kernel
theorem dX8_safest_53 : decode cX8_safest 53 = .ok (.aload_n 0, 1) := by decide +kernel
theorem dX8_safest_54 : decode cX8_safest 54 = .ok (.getfield 25, 3) := by decide +kernel
theorem dX8_safest_57 : decode cX8_safest 57 = .ok (.bipush 16, 2) := by decide +kernel
theorem dX8_safest_59 : decode cX8_safest 59 = .ok (.bipush 6, 2) := by decide +kernel
theorem dX8_safest_61 : decode cX8_safest 61 = .ok (.iload_n 1, 1) := by decide +kernel
theorem dX8_safest_62 : decode cX8_safest 62 = .ok (.imul, 1) := by decide +kernel
theorem dX8_safest_63 : decode cX8_safest 63 = .ok (.iadd, 1) := by decide +kernel
theorem dX8_safest_64 : decode cX8_safest 64 = .ok (.iconst 2, 1) := by decide +kernel
theorem dX8_safest_65 : decode cX8_safest 65 = .ok (.iadd, 1) := by decide +kernel
theorem dX8_safest_66 : decode cX8_safest 66 = .ok (.iload 4, 2) := by decide +kernel
theorem dX8_safest_68 : decode cX8_safest 68 = .ok (.iastore, 1) := by decide +kernel
theorem dX8_safest_69 : decode cX8_safest 69 = .ok (.aload_n 0, 1) := by decide +kernel
theorem dX8_safest_70 : decode cX8_safest 70 = .ok (.iload_n 1, 1) := by decide +kernel
theorem dX8_safest_71 : decode cX8_safest 71 = .ok (.invokevirtual 203, 3) := by decide +kernel
theorem dX8_safest_74 : decode cX8_safest 74 = .ok (.istore 5, 2) := by decide +kernel
theorem dX8_safest_76 : decode cX8_safest 76 = .ok (.iload 5, 2) := by decide +kernel
theorem dX8_safest_78 : decode cX8_safest 78 = .ok (.ldc 87, 2) := by decide +kernel
theorem dX8_safest_80 : decode cX8_safest 80 = .ok (.if_icmp .ne 8, 3) := by decide +kernel
theorem dX8_safest_83 : decode cX8_safest 83 = .ok (.bipush 61, 2) := by decide +kernel
theorem dX8_safest_85 : decode cX8_safest 85 = .ok (.goto 5, 3) := by decide +kernel
theorem dX8_safest_88 : decode cX8_safest 88 = .ok (.iload 5, 2) := by decide +kernel
theorem dX8_safest_90 : decode cX8_safest 90 = .ok (.istore 5, 2) := by decide +kernel
theorem dX8_safest_92 : decode cX8_safest 92 = .ok (.iload_n 2, 1) := by decide +kernel
theorem dX8_safest_93 : decode cX8_safest 93 = .ok (.ldc 87, 2) := by decide +kernel
theorem dX8_safest_95 : decode cX8_safest 95 = .ok (.if_icmp .eq 9, 3) := by decide +kernel
theorem dX8_safest_98 : decode cX8_safest 98 = .ok (.iload 5, 2) := by decide +kernel
theorem dX8_safest_100 : decode cX8_safest 100 = .ok (.iload_n 3, 1) := by decide +kernel
theorem dX8_safest_101 : decode cX8_safest 101 = .ok (.if_icmp .le 7, 3) := by decide +kernel
theorem dX8_safest_104 : decode cX8_safest 104 = .ok (.iconst 1, 1) := by decide +kernel
theorem dX8_safest_105 : decode cX8_safest 105 = .ok (.goto 4, 3) := by decide +kernel
theorem dX8_safest_108 : decode cX8_safest 108 = .ok (.iconst 0, 1) := by decide +kernel
theorem dX8_safest_109 : decode cX8_safest 109 = .ok (.istore 6, 2) := by decide +kernel
theorem dX8_safest_111 : decode cX8_safest 111 = .ok (.iload 6, 2) := by decide +kernel
theorem dX8_safest_113 : decode cX8_safest 113 = .ok (.ifCond .eq 8, 3) := by decide +kernel
theorem dX8_safest_116 : decode cX8_safest 116 = .ok (.iload 4, 2) := by decide +kernel
theorem dX8_safest_118 : decode cX8_safest 118 = .ok (.goto 4, 3) := by decide +kernel
theorem dX8_safest_121 : decode cX8_safest 121 = .ok (.iload_n 2, 1) := by decide +kernel
theorem dX8_safest_122 : decode cX8_safest 122 = .ok (.istore_n 2, 1) := by decide +kernel
theorem dX8_safest_123 : decode cX8_safest 123 = .ok (.iload 6, 2) := by decide +kernel
theorem dX8_safest_125 : decode cX8_safest 125 = .ok (.ifCond .eq 8, 3) := by decide +kernel
theorem dX8_safest_128 : decode cX8_safest 128 = .ok (.iload 5, 2) := by decide +kernel
theorem dX8_safest_130 : decode cX8_safest 130 = .ok (.goto 4, 3) := by decide +kernel
theorem dX8_safest_133 : decode cX8_safest 133 = .ok (.iload_n 3, 1) := by decide +kernel
theorem dX8_safest_134 : decode cX8_safest 134 = .ok (.istore_n 3, 1) := by decide +kernel
theorem dX8_safest_135 : decode cX8_safest 135 = .ok (.iinc 4 1, 3) := by decide +kernel
theorem dX8_safest_138 : decode cX8_safest 138 = .ok (.goto (-100), 3) := by decide +kernel
theorem dX8_safest_141 : decode cX8_safest 141 = .ok (.iload_n 2, 1) := by decide +kernel
theorem dX8_safest_142 : decode cX8_safest 142 = .ok (.ireturn, 1) := by decide +kernel
theorem dX8_meet_0 : decode cX8_meet 0 = .ok (.aload_n 0, 1) := by decide +kernel
theorem dX8_meet_1 : decode cX8_meet 1 = .ok (.iconst 0, 1) := by decide +kernel
theorem dX8_meet_2 : decode cX8_meet 2 = .ok (.putfield 44, 3) := by decide +kernel
theorem dX8_meet_5 : decode cX8_meet 5 = .ok (.aload_n 0, 1) := by decide +kernel
theorem dX8_meet_6 : decode cX8_meet 6 = .ok (.iload_n 1, 1) := by decide +kernel
theorem dX8_meet_7 : decode cX8_meet 7 = .ok (.invokevirtual 182, 3) := by decide +kernel
theorem dX8_meet_10 : decode cX8_meet 10 = .ok (.ifCond .eq 16, 3) := by decide +kernel
theorem dX8_meet_13 : decode cX8_meet 13 = .ok (.aload_n 0, 1) := by decide +kernel
theorem dX8_meet_14 : decode cX8_meet 14 = .ok (.iload_n 2, 1) := by decide +kernel
theorem dX8_meet_15 : decode cX8_meet 15 = .ok (.invokevirtual 182, 3) := by decide +kernel
theorem dX8_meet_18 : decode cX8_meet 18 = .ok (.ifCond .eq 8, 3) := by decide +kernel
theorem dX8_meet_21 : decode cX8_meet 21 = .ok (.iload_n 1, 1) := by decide +kernel
theorem dX8_meet_22 : decode cX8_meet 22 = .ok (.iload_n 2, 1) := by decide +kernel
theorem dX8_meet_23 : decode cX8_meet 23 = .ok (.if_icmp .ne 6, 3) := by decide +kernel
theorem dX8_meet_26 : decode cX8_meet 26 = .ok (.ldc 64, 2) := by decide +kernel
theorem dX8_meet_28 : decode cX8_meet 28 = .ok (.ireturn, 1) := by decide +kernel
theorem dX8_meet_29 : decode cX8_meet 29 = .ok (.aload_n 0, 1) := by decide +kernel
theorem dX8_meet_30 : decode cX8_meet 30 = .ok (.invokevirtual 193, 3) := by decide +kernel
theorem dX8_meet_33 : decode cX8_meet 33 = .ok (.iconst 0, 1) := by decide +kernel
theorem dX8_meet_34 : decode cX8_meet 34 = .ok (.istore_n 3, 1) := by decide +kernel
theorem dX8_meet_35 : decode cX8_meet 35 = .ok (.iload_n 3, 1) := by decide +kernel
theorem dX8_meet_36 : decode cX8_meet 36 = .ok (.bipush 60, 2) := by decide +kernel
theorem dX8_meet_38 : decode cX8_meet 38 = .ok (.if_icmp .gt 64, 3) := by decide +kernel
theorem dX8_meet_41 : decode cX8_meet 41 = .ok (.aload_n 0, 1) := by decide +kernel
theorem dX8_meet_42 : decode cX8_meet 42 = .ok (.getfield 25, 3) := by decide +kernel
theorem dX8_meet_45 : decode cX8_meet 45 = .ok (.iload_n 1, 1) := by decide +kernel
theorem dX8_meet_46 : decode cX8_meet 46 = .ok (.invokestatic 157, 3) := by decide +kernel
theorem dX8_meet_49 : decode cX8_meet 49 = .ok (.ifCond .eq 37, 3) := by decide +kernel
theorem dX8_meet_52 : decode cX8_meet 52 = .ok (.aload_n 0, 1) := by decide +kernel
theorem dX8_meet_53 : decode cX8_meet 53 = .ok (.getfield 25, 3) := by decide +kernel
theorem dX8_meet_56 : decode cX8_meet 56 = .ok (.iload_n 2, 1) := by decide +kernel
theorem dX8_meet_57 : decode cX8_meet 57 = .ok (.invokestatic 157, 3) := by decide +kernel
theorem dX8_meet_60 : decode cX8_meet 60 = .ok (.ifCond .eq 26, 3) := by decide +kernel
theorem dX8_meet_63 : decode cX8_meet 63 = .ok (.aload_n 0, 1) := by decide +kernel
theorem dX8_meet_64 : decode cX8_meet 64 = .ok (.getfield 25, 3) := by decide +kernel
theorem dX8_meet_67 : decode cX8_meet 67 = .ok (.iload_n 1, 1) := by decide +kernel
theorem dX8_meet_68 : decode cX8_meet 68 = .ok (.iconst 2, 1) := by decide +kernel
theorem dX8_meet_69 : decode cX8_meet 69 = .ok (.invokestatic 149, 3) := by decide +kernel
theorem dX8_meet_72 : decode cX8_meet 72 = .ok (.aload_n 0, 1) := by decide +kernel
theorem dX8_meet_73 : decode cX8_meet 73 = .ok (.getfield 25, 3) := by decide +kernel
theorem dX8_meet_76 : decode cX8_meet 76 = .ok (.iload_n 2, 1) := by decide +kernel
theorem dX8_meet_77 : decode cX8_meet 77 = .ok (.iconst 2, 1) := by decide +kernel
theorem dX8_meet_78 : decode cX8_meet 78 = .ok (.invokestatic 149, 3) := by decide +kernel
theorem dX8_meet_81 : decode cX8_meet 81 = .ok (.if_icmp .ne 5, 3) := by decide +kernel
theorem dX8_meet_84 : decode cX8_meet 84 = .ok (.iload_n 3, 1) := by decide +kernel
theorem dX8_meet_85 : decode cX8_meet 85 = .ok (.ireturn, 1) := by decide +kernel
theorem dX8_meet_86 : decode cX8_meet 86 = .ok (.aload_n 0, 1) := by decide +kernel
theorem dX8_meet_87 : decode cX8_meet 87 = .ok (.getfield 25, 3) := by decide +kernel
theorem dX8_meet_90 : decode cX8_meet 90 = .ok (.iconst 0, 1) := by decide +kernel
theorem dX8_meet_91 : decode cX8_meet 91 = .ok (.invokestatic 164, 3) := by decide +kernel
theorem dX8_meet_94 : decode cX8_meet 94 = .ok (.istore 4, 2) := by decide +kernel
theorem dX8_meet_96 : decode cX8_meet 96 = .ok (.iinc 3 1, 3) := by decide +kernel
theorem dX8_meet_99 : decode cX8_meet 99 = .ok (.goto (-64), 3) := by decide +kernel
theorem dX8_meet_102 : decode cX8_meet 102 = .ok (.ldc 87, 2) := by decide +kernel
theorem dX8_meet_104 : decode cX8_meet 104 = .ok (.ireturn, 1) := by decide +kernel
theorem dX8_fatal_0 : decode cX8_fatal 0 = .ok (.aload_n 0, 1) := by decide +kernel
theorem dX8_fatal_1 : decode cX8_fatal 1 = .ok (.iconst 0, 1) := by decide +kernel
theorem dX8_fatal_2 : decode cX8_fatal 2 = .ok (.putfield 44, 3) := by decide +kernel
theorem dX8_fatal_5 : decode cX8_fatal 5 = .ok (.aload_n 0, 1) := by decide +kernel
theorem dX8_fatal_6 : decode cX8_fatal 6 = .ok (.invokevirtual 167, 3) := by decide +kernel
theorem dX8_fatal_9 : decode cX8_fatal 9 = .ok (.ifCond .ne 6, 3) := by decide +kernel
theorem dX8_fatal_12 : decode cX8_fatal 12 = .ok (.ldc 170, 2) := by decide +kernel
theorem dX8_fatal_14 : decode cX8_fatal 14 = .ok (.ireturn, 1) := by decide +kernel
theorem dX8_fatal_15 : decode cX8_fatal 15 = .ok (.iload_n 1, 1) := by decide +kernel
theorem dX8_fatal_16 : decode cX8_fatal 16 = .ok (.i2l, 1) := by decide +kernel
theorem dX8_fatal_17 : decode cX8_fatal 17 = .ok (.lconst 1, 1) := by decide +kernel
theorem dX8_fatal_18 : decode cX8_fatal 18 = .ok (.ldc2_w 185, 3) := by decide +kernel
theorem dX8_fatal_21 : decode cX8_fatal 21 = .ok (.invokestatic 54, 3) := by decide +kernel
theorem dX8_fatal_24 : decode cX8_fatal 24 = .ok (.ifCond .ne 6, 3) := by decide +kernel
theorem dX8_fatal_27 : decode cX8_fatal 27 = .ok (.ldc 64, 2) := by decide +kernel
theorem dX8_fatal_29 : decode cX8_fatal 29 = .ok (.ireturn, 1) := by decide +kernel
theorem dX8_fatal_30 : decode cX8_fatal 30 = .ok (.aload_n 0, 1) := by decide +kernel
theorem dX8_fatal_31 : decode cX8_fatal 31 = .ok (.invokevirtual 193, 3) := by decide +kernel
theorem dX8_fatal_34 : decode cX8_fatal 34 = .ok (.aload_n 0, 1) := by decide +kernel
theorem dX8_fatal_35 : decode cX8_fatal 35 = .ok (.getfield 25, 3) := by decide +kernel
theorem dX8_fatal_38 : decode cX8_fatal 38 = .ok (.iload_n 1, 1) := by decide +kernel
theorem dX8_fatal_39 : decode cX8_fatal 39 = .ok (.invokestatic 196, 3) := by decide +kernel
theorem dX8_fatal_42 : decode cX8_fatal 42 = .ok (.istore_n 2, 1) := by decide +kernel
theorem dX8_fatal_43 : decode cX8_fatal 43 = .ok (.iconst 0, 1) := by decide +kernel
theorem dX8_fatal_44 : decode cX8_fatal 44 = .ok (.istore_n 3, 1) := by decide +kernel
theorem dX8_fatal_45 : decode cX8_fatal 45 = .ok (.iconst 0, 1) := by decide +kernel
theorem dX8_fatal_46 : decode cX8_fatal 46 = .ok (.istore 4, 2) := by decide +kernel
theorem dX8_fatal_48 : decode cX8_fatal 48 = .ok (.iload 4, 2) := by decide +kernel
theorem dX8_fatal_50 : decode cX8_fatal 50 = .ok (.aload_n 0, 1) := by decide +kernel
theorem dX8_fatal_51 : decode cX8_fatal 51 = .ok (.getfield 19, 3) := by decide +kernel
theorem dX8_fatal_54 : decode cX8_fatal 54 = .ok (.iconst 3, 1) := by decide +kernel
theorem dX8_fatal_55 : decode cX8_fatal 55 = .ok (.iaload, 1) := by decide +kernel
theorem dX8_fatal_56 : decode cX8_fatal 56 = .ok (.if_icmp .ge 52, 3) := by decide +kernel
theorem dX8_fatal_59 : decode cX8_fatal 59 = .ok (.iload_n 3, 1) := by decide +kernel
theorem dX8_fatal_60 : decode cX8_fatal 60 = .ok (.aload_n 0, 1) := by decide +kernel
theorem dX8_fatal_61 : decode cX8_fatal 61 = .ok (.getfield 19, 3) := by decide +kernel
theorem dX8_fatal_64 : decode cX8_fatal 64 = .ok (.iload 4, 2) := by decide +kernel
theorem dX8_fatal_66 : decode cX8_fatal 66 = .ok (.invokestatic 157, 3) := by decide +kernel
theorem dX8_fatal_69 : decode cX8_fatal 69 = .ok (.ifCond .eq 30, 3) := by decide +kernel
theorem dX8_fatal_72 : decode cX8_fatal 72 = .ok (.aload_n 0, 1) := by decide +kernel
theorem dX8_fatal_73 : decode cX8_fatal 73 = .ok (.getfield 25, 3) := by decide +kernel
theorem dX8_fatal_76 : decode cX8_fatal 76 = .ok (.iload 4, 2) := by decide +kernel
theorem dX8_fatal_78 : decode cX8_fatal 78 = .ok (.invokestatic 157, 3) := by decide +kernel
theorem dX8_fatal_81 : decode cX8_fatal 81 = .ok (.ifCond .ne 18, 3) := by decide +kernel
theorem dX8_fatal_84 : decode cX8_fatal 84 = .ok (.iconst 1, 1) := by decide +kernel
theorem dX8_fatal_85 : decode cX8_fatal 85 = .ok (.aload_n 0, 1) := by decide +kernel
theorem dX8_fatal_86 : decode cX8_fatal 86 = .ok (.getfield 19, 3) := by decide +kernel
theorem dX8_fatal_89 : decode cX8_fatal 89 = .ok (.iload 4, 2) := by decide +kernel
theorem dX8_fatal_91 : decode cX8_fatal 91 = .ok (.iconst 1, 1) := by decide +kernel
theorem dX8_fatal_92 : decode cX8_fatal 92 = .ok (.invokestatic 149, 3) := by decide +kernel
theorem dX8_fatal_95 : decode cX8_fatal 95 = .ok (.ishl, 1) := by decide +kernel
theorem dX8_fatal_96 : decode cX8_fatal 96 = .ok (.goto 4, 3) := by decide +kernel
theorem dX8_fatal_99 : decode cX8_fatal 99 = .ok (.iconst 0, 1) := by decide +kernel
theorem dX8_fatal_100 : decode cX8_fatal 100 = .ok (.ior, 1) := by decide +kernel
theorem dX8_fatal_101 : decode cX8_fatal 101 = .ok (.istore_n 3, 1) := by decide +kernel
theorem dX8_fatal_102 : decode cX8_fatal 102 = .ok (.iinc 4 1, 3) := by decide +kernel
theorem dX8_fatal_105 : decode cX8_fatal 105 = .ok (.goto (-57), 3) := by decide +kernel
theorem dX8_fatal_108 : decode cX8_fatal 108 = .ok (.iload_n 3, 1) := by decide +kernel
theorem dX8_fatal_109 : decode cX8_fatal 109 = .ok (.ireturn, 1) := by decide +kernel
theorem dX8_isSo_0 : decode cX8_isSo 0 = .ok (.iconst 1, 1) := by decide +kernel
theorem dX8_isSo_1 : decode cX8_isSo 1 = .ok (.istore 4, 2) := by decide +kernel
theorem dX8_isSo_3 : decode cX8_isSo 3 = .ok (.iconst 0, 1) := by decide +kernel
theorem dX8_isSo_4 : decode cX8_isSo 4 = .ok (.istore 5, 2) := by decide +kernel
theorem dX8_isSo_6 : decode cX8_isSo 6 = .ok (.iload 5, 2) := by decide +kernel
theorem dX8_isSo_8 : decode cX8_isSo 8 = .ok (.iload_n 3, 1) := by decide +kernel
theorem dX8_isSo_9 : decode cX8_isSo 9 = .ok (.if_icmp .ge 67, 3) := by decide +kernel
theorem dX8_isSo_12 : decode cX8_isSo 12 = .ok (.aload_n 0, 1) := by decide +kernel
theorem dX8_isSo_13 : decode cX8_isSo 13 = .ok (.getfield 25, 3) := by decide +kernel
theorem dX8_isSo_16 : decode cX8_isSo 16 = .ok (.iconst 0, 1) := by decide +kernel
theorem dX8_isSo_17 : decode cX8_isSo 17 = .ok (.invokestatic 164, 3) := by decide +kernel
theorem dX8_isSo_20 : decode cX8_isSo 20 = .ok (.istore 6, 2) := by decide +kernel
theorem dX8_isSo_22 : decode cX8_isSo 22 = .ok (.iload 4, 2) := by decide +kernel
theorem dX8_isSo_24 : decode cX8_isSo 24 = .ok (.ifCond .eq 43, 3) := by decide +kernel
theorem dX8_isSo_27 : decode cX8_isSo 27 = .ok (.aload_n 0, 1) := by decide +kernel
theorem dX8_isSo_28 : decode cX8_isSo 28 = .ok (.getfield 25, 3) := by decide +kernel
theorem dX8_isSo_31 : decode cX8_isSo 31 = .ok (.iload_n 1, 1) := by decide +kernel
theorem dX8_isSo_32 : decode cX8_isSo 32 = .ok (.invokestatic 157, 3) := by decide +kernel
theorem dX8_isSo_35 : decode cX8_isSo 35 = .ok (.ifCond .eq 15, 3) := by decide +kernel
theorem dX8_isSo_38 : decode cX8_isSo 38 = .ok (.aload_n 0, 1) := by decide +kernel
theorem dX8_isSo_39 : decode cX8_isSo 39 = .ok (.getfield 25, 3) := by decide +kernel
theorem dX8_isSo_42 : decode cX8_isSo 42 = .ok (.iload_n 1, 1) := by decide +kernel
theorem dX8_isSo_43 : decode cX8_isSo 43 = .ok (.iconst 2, 1) := by decide +kernel
theorem dX8_isSo_44 : decode cX8_isSo 44 = .ok (.invokestatic 149, 3) := by decide +kernel
theorem dX8_isSo_47 : decode cX8_isSo 47 = .ok (.goto 4, 3) := by decide +kernel
theorem dX8_isSo_50 : decode cX8_isSo 50 = .ok (.iconst (-1), 1) := by decide +kernel
theorem dX8_isSo_51 : decode cX8_isSo 51 = .ok (.aload_n 0, 1) := by decide +kernel
theorem dX8_isSo_52 : decode cX8_isSo 52 = .ok (.getfield 16, 3) := by decide +kernel
theorem dX8_isSo_55 : decode cX8_isSo 55 = .ok (.iload_n 2, 1) := by decide +kernel
theorem dX8_isSo_56 : decode cX8_isSo 56 = .ok (.iload 5, 2) := by decide +kernel
theorem dX8_isSo_58 : decode cX8_isSo 58 = .ok (.iadd, 1) := by decide +kernel
theorem dX8_isSo_59 : decode cX8_isSo 59 = .ok (.iaload, 1) := by decide +kernel
theorem dX8_isSo_60 : decode cX8_isSo 60 = .ok (.if_icmp .ne 7, 3) := by decide +kernel
theorem dX8_isSo_63 : decode cX8_isSo 63 = .ok (.iconst 1, 1) := by decide +kernel
theorem dX8_isSo_64 : decode cX8_isSo 64 = .ok (.goto 4, 3) := by decide +kernel
theorem dX8_isSo_67 : decode cX8_isSo 67 = .ok (.iconst 0, 1) := by decide +kernel
theorem dX8_isSo_68 : decode cX8_isSo 68 = .ok (.istore 4, 2) := by decide +kernel
theorem dX8_isSo_70 : decode cX8_isSo 70 = .ok (.iinc 5 1, 3) := by decide +kernel
theorem dX8_isSo_73 : decode cX8_isSo 73 = .ok (.goto (-67), 3) := by decide +kernel
theorem dX8_isSo_76 : decode cX8_isSo 76 = .ok (.iload 4, 2) := by decide +kernel
theorem dX8_isSo_78 : decode cX8_isSo 78 = .ok (.ireturn, 1) := by decide +kernel
theorem dX8_fits_0 : decode cX8_fits 0 = .ok (.aload_n 0, 1) := by decide +kernel
theorem dX8_fits_1 : decode cX8_fits 1 = .ok (.getfield 7, 3) := by decide +kernel
theorem dX8_fits_4 : decode cX8_fits 4 = .ok (.iload_n 2, 1) := by decide +kernel
theorem dX8_fits_5 : decode cX8_fits 5 = .ok (.iaload, 1) := by decide +kernel
theorem dX8_fits_6 : decode cX8_fits 6 = .ok (.ifCond .ge 9, 3) := by decide +kernel
theorem dX8_fits_9 : decode cX8_fits 9 = .ok (.aload_n 0, 1) := by decide +kernel
theorem dX8_fits_10 : decode cX8_fits 10 = .ok (.iconst 1, 1) := by decide +kernel
theorem dX8_fits_11 : decode cX8_fits 11 = .ok (.invokevirtual 65, 3) := by decide +kernel
theorem dX8_fits_14 : decode cX8_fits 14 = .ok (.ireturn, 1) := by decide +kernel
theorem dX8_fits_15 : decode cX8_fits 15 = .ok (.iload_n 3, 1) := by decide +kernel
theorem dX8_fits_16 : decode cX8_fits 16 = .ok (.ifCond .lt 20, 3) := by decide +kernel
theorem dX8_fits_19 : decode cX8_fits 19 = .ok (.iload_n 3, 1) := by decide +kernel
theorem dX8_fits_20 : decode cX8_fits 20 = .ok (.i2l, 1) := by decide +kernel
theorem dX8_fits_21 : decode cX8_fits 21 = .ok (.iload 4, 2) := by decide +kernel
theorem dX8_fits_23 : decode cX8_fits 23 = .ok (.i2l, 1) := by decide +kernel
theorem dX8_fits_24 : decode cX8_fits 24 = .ok (.ladd, 1) := by decide +kernel
theorem dX8_fits_25 : decode cX8_fits 25 = .ok (.aload_n 0, 1) := by decide +kernel
theorem dX8_fits_26 : decode cX8_fits 26 = .ok (.getfield 13, 3) := by decide +kernel
theorem dX8_fits_29 : decode cX8_fits 29 = .ok (.iload_n 2, 1) := by decide +kernel
theorem dX8_fits_30 : decode cX8_fits 30 = .ok (.iaload, 1) := by decide +kernel
theorem dX8_fits_31 : decode cX8_fits 31 = .ok (.i2l, 1) := by decide +kernel
theorem dX8_fits_32 : decode cX8_fits 32 = .ok (.lcmp, 1) := by decide +kernel
theorem dX8_fits_33 : decode cX8_fits 33 = .ok (.ifCond .le 9, 3) := by decide +kernel
theorem dX8_fits_36 : decode cX8_fits 36 = .ok (.aload_n 0, 1) := by decide +kernel
theorem dX8_fits_37 : decode cX8_fits 37 = .ok (.iconst 2, 1) := by decide +kernel
theorem dX8_fits_38 : decode cX8_fits 38 = .ok (.invokevirtual 65, 3) := by decide +kernel
theorem dX8_fits_41 : decode cX8_fits 41 = .ok (.ireturn, 1) := by decide +kernel
theorem dX8_fits_42 : decode cX8_fits 42 = .ok (.aload_n 0, 1) := by decide +kernel
theorem dX8_fits_43 : decode cX8_fits 43 = .ok (.iconst 0, 1) := by decide +kernel
theorem dX8_fits_44 : decode cX8_fits 44 = .ok (.putfield 48, 3) := by decide +kernel
theorem dX8_fits_47 : decode cX8_fits 47 = .ok (.iconst 0, 1) := by decide +kernel
theorem dX8_fits_48 : decode cX8_fits 48 = .ok (.istore 8, 2) := by decide +kernel
theorem dX8_fits_50 : decode cX8_fits 50 = .ok (.iload 6, 2) := by decide +kernel
theorem dX8_fits_52 : decode cX8_fits 52 = .ok (.istore 9, 2) := by decide +kernel
theorem dX8_fits_54 : decode cX8_fits 54 = .ok (.iload 9, 2) := by decide +kernel
theorem dX8_fits_56 : decode cX8_fits 56 = .ok (.iload 7, 2) := by decide +kernel
theorem dX8_fits_58 : decode cX8_fits 58 = .ok (.if_icmp .gt 59, 3) := by decide +kernel
theorem dX8_fits_61 : decode cX8_fits 61 = .ok (.aload_n 0, 1) := by decide +kernel
theorem dX8_fits_62 : decode cX8_fits 62 = .ok (.invokevirtual 193, 3) := by decide +kernel
theorem dX8_fits_65 : decode cX8_fits 65 = .ok (.aload_n 0, 1) := by decide +kernel
theorem dX8_fits_66 : decode cX8_fits 66 = .ok (.getfield 25, 3) := by decide +kernel
theorem dX8_fits_69 : decode cX8_fits 69 = .ok (.bipush 16, 2) := by decide +kernel
theorem dX8_fits_71 : decode cX8_fits 71 = .ok (.bipush 6, 2) := by decide +kernel
theorem dX8_fits_73 : decode cX8_fits 73 = .ok (.iload_n 1, 1) := by decide +kernel
theorem dX8_fits_74 : decode cX8_fits 74 = .ok (.imul, 1) := by decide +kernel
theorem dX8_fits_75 : decode cX8_fits 75 = .ok (.iadd, 1) := by decide +kernel
theorem dX8_fits_76 : decode cX8_fits 76 = .ok (.iload 5, 2) := by decide +kernel
theorem dX8_fits_78 : decode cX8_fits 78 = .ok (.iadd, 1) := by decide +kernel
theorem dX8_fits_79 : decode cX8_fits 79 = .ok (.iload 9, 2) := by decide +kernel
theorem dX8_fits_81 : decode cX8_fits 81 = .ok (.iastore, 1) := by decide +kernel
theorem dX8_fits_82 : decode cX8_fits 82 = .ok (.iload 8, 2) := by decide +kernel
theorem dX8_fits_84 : decode cX8_fits 84 = .ok (.aload_n 0, 1) := by decide +kernel
