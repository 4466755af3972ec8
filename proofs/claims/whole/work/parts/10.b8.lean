theorem bX8_init_0 : Blk cX8_init 8 none true 0 [(.aload 0, 1)] = true := by decide +kernel
theorem bX8_init_4 : Blk cX8_init 8 none true 4 [(.aload 0, 1), (.iconst 2000, 3)] = true := by decide +kernel
theorem bX8_init_10 : Blk cX8_init 8 none true 10 [(.putstatic 513, 3), (.aload 0, 1), (.iconst 2000, 3)] = true := by decide +kernel
theorem bX8_init_19 : Blk cX8_init 8 none true 19 [(.putstatic 515, 3), (.aload 0, 1), (.iconst 303, 3)] = true := by decide +kernel
theorem bX8_init_28 : Blk cX8_init 8 none true 28 [(.putstatic 517, 3), (.aload 0, 1), (.iconst 303, 3)] = true := by decide +kernel
theorem bX8_init_37 : Blk cX8_init 8 none true 37 [(.putstatic 518, 3), (.aload 0, 1), (.iconst 303, 3)] = true := by decide +kernel
theorem bX8_init_46 : Blk cX8_init 8 none true 46 [(.putstatic 519, 3), (.aload 0, 1), (.iconst 303, 3)] = true := by decide +kernel
theorem bX8_init_55 : Blk cX8_init 8 none true 55 [(.putstatic 520, 3), (.aload 0, 1), (.iconst 11, 2)] = true := by decide +kernel
theorem bX8_init_63 : Blk cX8_init 8 none true 63 [(.putstatic 521, 3), (.aload 0, 1), (.iconst (-1), 1), (.putfield 528, 3), (.aload 0, 1), (.iconst 2, 1)] = true := by decide +kernel
theorem bX8_init_75 : Blk cX8_init 8 none true 75 [(.putstatic 531, 3), (.aload 0, 1), (.iconst 16, 2)] = true := by decide +kernel
theorem bX8_init_83 : Blk cX8_init 8 none true 83 [(.putstatic 532, 3), (.aload 0, 1), (.iconst 16, 2)] = true := by decide +kernel
theorem bX8_init_91 : Blk cX8_init 8 none true 91 [(.putstatic 533, 3), (.aload 0, 1), (.iconst 16, 2)] = true := by decide +kernel
theorem bX8_init_99 : Blk cX8_init 8 none true 99 [(.putstatic 534, 3), (.aload 0, 1), (.iconst 16, 2)] = true := by decide +kernel
theorem bX8_init_107 : Blk cX8_init 8 none true 107 [(.putstatic 535, 3), (.aload 0, 1), (.iconst 64, 2)] = true := by decide +kernel
theorem bX8_init_115 : Blk cX8_init 8 none true 115 [(.putstatic 536, 3), (.aload 0, 1), (.iconst 64, 2)] = true := by decide +kernel
theorem bX8_init_123 : Blk cX8_init 8 none true 123 [(.putstatic 537, 3), (.aload 0, 1), (.iconst 64, 2)] = true := by decide +kernel
theorem bX8_init_131 : Blk cX8_init 8 none true 131 [(.putstatic 538, 3), (.aload 0, 1), (.iconst 16, 2)] = true := by decide +kernel
theorem bX8_init_139 : Blk cX8_init 8 none true 139 [(.putstatic 539, 3), (.aload 0, 1), (.iconst 16, 2)] = true := by decide +kernel
theorem bX8_init_147 : Blk cX8_init 8 none true 147 [(.putstatic 540, 3), (.aload 0, 1), (.iconst 16, 2)] = true := by decide +kernel
theorem bX8_init_155 : Blk cX8_init 8 none true 155 [(.putstatic 541, 3), (.aload 0, 1), (.iconst 16, 2)] = true := by decide +kernel
theorem bX8_init_163 : Blk cX8_init 8 none true 163 [(.putstatic 542, 3), (.aload 0, 1), (.iconst 16, 2)] = true := by decide +kernel
theorem bX8_init_171 : Blk cX8_init 8 none true 171 [(.putstatic 543, 3), (.aload 0, 1), (.iconst 4, 1)] = true := by decide +kernel
theorem bX8_init_178 : Blk cX8_init 8 none true 178 [(.putstatic 545, 3), (.aload 0, 1), (.iconst 4, 1)] = true := by decide +kernel
theorem bX8_init_185 : Blk cX8_init 8 none true 185 [(.putstatic 546, 3), (.aload 0, 1), (.iconst 1024, 3)] = true := by decide +kernel
theorem bX8_init_194 : Blk cX8_init 8 none true 194 [(.putstatic 547, 3), (.aload 0, 1), (.iconst 8, 2)] = true := by decide +kernel
theorem bX8_init_202 : Blk cX8_init 8 none true 202 [(.putstatic 551, 3), (.aload 0, 1), (.iconst 8, 2)] = true := by decide +kernel
theorem bX8_init_210 : Blk cX8_init 8 none true 210 [(.putstatic 552, 3), (.aload 0, 1), (.iconst 8, 2)] = true := by decide +kernel
theorem bX8_init_218 : Blk cX8_init 8 none true 218 [(.putstatic 553, 3), (.aload 0, 1), (.iconst 24, 2)] = true := by decide +kernel
theorem bX8_init_226 : Blk cX8_init 8 none true 226 [(.putstatic 554, 3), (.aload 0, 1), (.iconst 8, 2)] = true := by decide +kernel
theorem bX8_init_234 : Blk cX8_init 8 none true 234 [(.putstatic 555, 3), (.aload 0, 1), (.iconst 8, 2)] = true := by decide +kernel
theorem bX8_init_242 : Blk cX8_init 8 none true 242 [(.putstatic 556, 3), (.aload 0, 1), (.iconst 8, 2)] = true := by decide +kernel
theorem bX8_init_250 : Blk cX8_init 8 none true 250 [(.putstatic 563, 3), (.aload 0, 1), (.iconst 8, 2)] = true := by decide +kernel
theorem bX8_init_258 : Blk cX8_init 8 none true 258 [(.putstatic 564, 3), (.aload 0, 1), (.getstatic 521, 3), (.iconst 0, 1), (.iconst 97, 2), (.iconst 115, 2), (.iconst 107, 2), (.iconst 0, 1), (.iconst 0, 1), (.iconst 0, 1), (.iconst 0, 1)] = true := by decide +kernel
theorem bX8_init_279 : Blk cX8_init 8 none true 279 [(.lastore, 1), (.aload 0, 1), (.getstatic 521, 3), (.iconst 1, 1), (.iconst 115, 2), (.iconst 104, 2), (.iconst 97, 2), (.iconst 114, 2), (.iconst 101, 2), (.iconst 0, 1), (.iconst 0, 1)] = true := by decide +kernel
theorem bX8_init_300 : Blk cX8_init 8 none true 300 [(.lastore, 1), (.aload 0, 1), (.getstatic 521, 3), (.iconst 2, 1), (.iconst 102, 2), (.iconst 114, 2), (.iconst 111, 2), (.iconst 109, 2), (.iconst 0, 1), (.iconst 0, 1), (.iconst 0, 1)] = true := by decide +kernel
theorem bX8_init_320 : Blk cX8_init 8 none true 320 [(.lastore, 1), (.aload 0, 1), (.getstatic 521, 3), (.iconst 3, 1), (.iconst 119, 2), (.iconst 104, 2), (.iconst 101, 2), (.iconst 114, 2), (.iconst 101, 2), (.iconst 0, 1), (.iconst 0, 1)] = true := by decide +kernel
theorem bX8_init_341 : Blk cX8_init 8 none true 341 [(.lastore, 1), (.aload 0, 1), (.getstatic 521, 3), (.iconst 4, 1), (.iconst 97, 2), (.iconst 110, 2), (.iconst 100, 2), (.iconst 0, 1), (.iconst 0, 1), (.iconst 0, 1), (.iconst 0, 1)] = true := by decide +kernel
theorem bX8_init_360 : Blk cX8_init 8 none true 360 [(.lastore, 1), (.aload 0, 1), (.getstatic 521, 3), (.iconst 5, 1), (.iconst 106, 2), (.iconst 111, 2), (.iconst 105, 2), (.iconst 110, 2), (.iconst 0, 1), (.iconst 0, 1), (.iconst 0, 1)] = true := by decide +kernel
theorem bX8_init_380 : Blk cX8_init 8 none true 380 [(.lastore, 1), (.aload 0, 1), (.getstatic 521, 3), (.iconst 6, 2), (.iconst 111, 2), (.iconst 110, 2), (.iconst 0, 1), (.iconst 0, 1), (.iconst 0, 1), (.iconst 0, 1), (.iconst 0, 1)] = true := by decide +kernel
theorem bX8_init_399 : Blk cX8_init 8 none true 399 [(.lastore, 1), (.aload 0, 1), (.getstatic 521, 3), (.iconst 7, 2), (.iconst 111, 2), (.iconst 114, 2), (.iconst 100, 2), (.iconst 101, 2), (.iconst 114, 2), (.iconst 0, 1), (.iconst 0, 1)] = true := by decide +kernel
theorem bX8_init_421 : Blk cX8_init 8 none true 421 [(.lastore, 1), (.aload 0, 1), (.getstatic 521, 3), (.iconst 8, 2), (.iconst 119, 2), (.iconst 114, 2), (.iconst 105, 2), (.iconst 116, 2), (.iconst 101, 2), (.iconst 0, 1), (.iconst 0, 1)] = true := by decide +kernel
theorem bX8_init_443 : Blk cX8_init 8 none true 443 [(.lastore, 1), (.aload 0, 1), (.getstatic 521, 3), (.iconst 9, 2), (.iconst 105, 2), (.iconst 110, 2), (.iconst 116, 2), (.iconst 111, 2), (.iconst 0, 1), (.iconst 0, 1), (.iconst 0, 1)] = true := by decide +kernel
theorem bX8_init_464 : Blk cX8_init 8 none true 464 [(.lastore, 1), (.aload 0, 1), (.getstatic 521, 3), (.iconst 10, 2), (.iconst 114, 2), (.iconst 111, 2), (.iconst 119, 2), (.iconst 115, 2), (.iconst 0, 1), (.iconst 0, 1), (.iconst 0, 1)] = true := by decide +kernel
theorem bX8_init_485 : Blk cX8_init 8 none true 485 [(.lastore, 1), (.return_, 1)] = true := by decide +kernel
theorem bX8_feed_0 : Blk cX8_feed 8 (some .int) false 0 [(.aload 0, 1), (.getfield 514, 3), (.iconst 20, 2), (.iadd, 1), (.iconst 2000, 3), (.if_icmp .le 15, 3), (.iconst (-1), 1), (.ireturn, 1)] = true := by decide +kernel
theorem bX8_feed_15 : Blk cX8_feed 8 (some .int) false 15 [(.aload 0, 1), (.iload 1, 1)] = true := by decide +kernel
theorem bX8_feed_20 : Blk cX8_feed 8 (some .int) false 20 [(.aload 0, 1), (.iload 2, 1)] = true := by decide +kernel
theorem bX8_feed_25 : Blk cX8_feed 8 (some .int) false 25 [(.aload 0, 1), (.iload 3, 1)] = true := by decide +kernel
theorem bX8_feed_30 : Blk cX8_feed 8 (some .int) false 30 [(.aload 0, 1), (.iload 4, 2)] = true := by decide +kernel
theorem bX8_feed_36 : Blk cX8_feed 8 (some .int) false 36 [(.aload 0, 1), (.iload 5, 2)] = true := by decide +kernel
theorem bX8_feed_42 : Blk cX8_feed 8 (some .int) false 42 [(.aload 0, 1), (.getfield 514, 3), (.ireturn, 1)] = true := by decide +kernel
theorem bX8_put_0 : Blk cX8_put 8 none false 0 [(.iconst 24, 2), (.istore 2, 1)] = true := by decide +kernel
theorem bX8_put_3 : Blk cX8_put 8 none false 3 [(.iload 2, 1), (.ifCond .lt 36, 3), (.aload 0, 1), (.getstatic 513, 3), (.aload 0, 1), (.getfield 514, 3), (.iload 1, 1), (.iload 2, 1), (.ishr, 1), (.i2b, 1), (.bastore, 1), (.aload 0, 1), (.dup, 1), (.getfield 514, 3), (.iconst 1, 1), (.iadd, 1), (.putfield 514, 3), (.iinc 2 (-8), 3), (.goto 3, 3)] = true := by decide +kernel
theorem bX8_put_36 : Blk cX8_put 8 none false 36 [(.return_, 1)] = true := by decide +kernel
theorem bX8_back_0 : Blk cX8_back 8 (some .int) false 0 [(.iload 1, 1), (.ifCond .lt 12, 3), (.iload 1, 1), (.aload 0, 1), (.getfield 514, 3), (.if_icmp .le 14, 3)] = true := by decide +kernel
theorem bX8_back_12 : Blk cX8_back 8 (some .int) false 12 [(.iconst (-1), 1), (.ireturn, 1)] = true := by decide +kernel
theorem bX8_back_14 : Blk cX8_back 8 (some .int) false 14 [(.aload 0, 1), (.dup, 1), (.getfield 514, 3), (.iload 1, 1), (.isub, 1), (.putfield 514, 3), (.aload 0, 1), (.getfield 514, 3), (.ireturn, 1)] = true := by decide +kernel
theorem bX8_at_0 : Blk cX8_at 8 (some .int) false 0 [(.iload 1, 1), (.aload 0, 1), (.getfield 516, 3), (.if_icmp .ge 21, 3), (.aload 0, 1), (.getstatic 515, 3), (.iload 1, 1), (.baload, 1), (.iconst 255, 3), (.iand, 1), (.goto 22, 3)] = true := by decide +kernel
theorem bX8_at_21 : Blk cX8_at 8 (some .int) false 21 [(.iconst 0, 1)] = true := by decide +kernel
theorem bX8_at_22 : Blk cX8_at 8 (some .int) false 22 [(.ireturn, 1)] = true := by decide +kernel
theorem bX8_isDigit_0 : Blk cX8_isDigit 8 (some .boolean) false 0 [(.iload 0, 1), (.iconst 48, 2), (.if_icmp .lt 16, 3), (.iload 0, 1), (.iconst 57, 2), (.if_icmp .gt 16, 3), (.iconst 1, 1), (.goto 17, 3)] = true := by decide +kernel
theorem bX8_isDigit_16 : Blk cX8_isDigit 8 (some .boolean) false 16 [(.iconst 0, 1)] = true := by decide +kernel
theorem bX8_isDigit_17 : Blk cX8_isDigit 8 (some .boolean) false 17 [(.freturn, 1)] = true := by decide +kernel
theorem bX8_isLetter_0 : Blk cX8_isLetter 8 (some .boolean) false 0 [(.iload 0, 1), (.iconst 97, 2), (.if_icmp .lt 16, 3), (.iload 0, 1), (.iconst 122, 2), (.if_icmp .gt 16, 3), (.iconst 1, 1), (.goto 17, 3)] = true := by decide +kernel
theorem bX8_isLetter_16 : Blk cX8_isLetter 8 (some .boolean) false 16 [(.iconst 0, 1)] = true := by decide +kernel
theorem bX8_isLetter_17 : Blk cX8_isLetter 8 (some .boolean) false 17 [(.freturn, 1)] = true := by decide +kernel
theorem bX8_more_0 : Blk cX8_more 8 (some .long) false 0 [(.iload 2, 1), (.ifCond .ne 8, 3), (.lload 0, 1), (.goto 21, 3)] = true := by decide +kernel
theorem bX8_more_8 : Blk cX8_more 8 (some .long) false 8 [(.jsr 27, 3), (.lload 0, 1), (.lmul, 1), (.iload 2, 1), (.iconst 97, 2), (.isub, 1), (.iconst 1, 1), (.iadd, 1), (.i2l, 1), (.ladd, 1)] = true := by decide +kernel
theorem bX8_more_21 : Blk cX8_more 8 (some .long) false 21 [(.lreturn, 1)] = true := by decide +kernel
theorem bX8_word_0 : Blk cX8_word 8 (some .long) false 0 [(.jsr 0, 1), (.iload 0, 1)] = true := by decide +kernel
theorem bX8_word_5 : Blk cX8_word 8 (some .long) false 5 [(.iload 1, 1)] = true := by decide +kernel
theorem bX8_word_9 : Blk cX8_word 8 (some .long) false 9 [(.iload 2, 1)] = true := by decide +kernel
theorem bX8_word_13 : Blk cX8_word 8 (some .long) false 13 [(.iload 3, 1)] = true := by decide +kernel
theorem bX8_word_17 : Blk cX8_word 8 (some .long) false 17 [(.iload 4, 2)] = true := by decide +kernel
theorem bX8_word_22 : Blk cX8_word 8 (some .long) false 22 [(.iload 5, 2)] = true := by decide +kernel
theorem bX8_word_27 : Blk cX8_word 8 (some .long) false 27 [(.iload 6, 2)] = true := by decide +kernel
theorem bX8_word_32 : Blk cX8_word 8 (some .long) false 32 [(.lreturn, 1)] = true := by decide +kernel
theorem bX8_token_0 : Blk cX8_token 8 none false 0 [(.aload 0, 1), (.getstatic 517, 3), (.aload 0, 1), (.getfield 522, 3), (.iload 1, 1), (.iastore, 1), (.aload 0, 1), (.getstatic 518, 3), (.aload 0, 1), (.getfield 522, 3), (.iload 2, 1), (.iastore, 1), (.aload 0, 1), (.getstatic 519, 3), (.aload 0, 1), (.getfield 522, 3), (.iload 3, 1), (.iastore, 1), (.aload 0, 1), (.getstatic 520, 3), (.aload 0, 1), (.getfield 522, 3), (.lload 4, 2), (.lastore, 1), (.aload 0, 1), (.dup, 1), (.getfield 522, 3), (.iconst 1, 1), (.iadd, 1), (.putfield 522, 3), (.return_, 1)] = true := by decide +kernel
theorem bX8_cut_0 : Blk cX8_cut 8 none false 0 [(.aload 0, 1), (.iconst 0, 1), (.putfield 522, 3), (.iconst 0, 1), (.istore 1, 1)] = true := by decide +kernel
theorem bX8_cut_7 : Blk cX8_cut 8 none false 7 [(.aload 0, 1), (.getfield 522, 3), (.iconst 300, 3), (.if_icmp .gt 294, 3), (.aload 0, 1), (.iload 1, 1)] = true := by decide +kernel
theorem bX8_cut_22 : Blk cX8_cut 8 none false 22 [(.istore 2, 1), (.iload 1, 1), (.aload 0, 1), (.getfield 516, 3), (.if_icmp .lt 43, 3), (.aload 0, 1), (.iconst 0, 1), (.aload 0, 1), (.getfield 516, 3), (.iconst 0, 1), (.jsr 0, 1)] = true := by decide +kernel
theorem bX8_cut_42 : Blk cX8_cut 8 none false 42 [(.return_, 1)] = true := by decide +kernel
theorem bX8_cut_43 : Blk cX8_cut 8 none false 43 [(.iload 2, 1), (.iconst 9, 2), (.if_icmp .eq 67, 3), (.iload 2, 1), (.iconst 10, 2), (.if_icmp .eq 67, 3), (.iload 2, 1), (.iconst 13, 2), (.if_icmp .eq 67, 3), (.iload 2, 1), (.iconst 32, 2), (.if_icmp .ne 73, 3)] = true := by decide +kernel
theorem bX8_cut_67 : Blk cX8_cut 8 none false 67 [(.iinc 1 1, 3), (.goto 291, 3)] = true := by decide +kernel
theorem bX8_cut_73 : Blk cX8_cut 8 none false 73 [(.iload 2, 1)] = true := by decide +kernel
theorem bX8_cut_77 : Blk cX8_cut 8 none false 77 [(.ifCond .eq 196, 3), (.iconst 0, 1), (.istore 3, 1), (.jsr 0, 1), (.lstore 4, 2)] = true := by decide +kernel
theorem bX8_cut_85 : Blk cX8_cut 8 none false 85 [(.aload 0, 1), (.iload 1, 1), (.iload 3, 1), (.iadd, 1)] = true := by decide +kernel
theorem bX8_cut_95 : Blk cX8_cut 8 none false 95 [(.ifCond .eq 124, 3), (.iload 3, 1), (.iconst 8, 2), (.if_icmp .ge 118, 3), (.lload 4, 2), (.aload 0, 1), (.iload 1, 1), (.iload 3, 1), (.iadd, 1)] = true := by decide +kernel
theorem bX8_cut_116 : Blk cX8_cut 8 none false 116 [(.lstore 4, 2)] = true := by decide +kernel
theorem bX8_cut_118 : Blk cX8_cut 8 none false 118 [(.iinc 3 1, 3), (.goto 85, 3)] = true := by decide +kernel
theorem bX8_cut_124 : Blk cX8_cut 8 none false 124 [(.iload 3, 1), (.iconst 8, 2), (.if_icmp .le 134, 3), (.iconst 3, 1), (.goto 135, 3)] = true := by decide +kernel
theorem bX8_cut_134 : Blk cX8_cut 8 none false 134 [(.iconst 1, 1)] = true := by decide +kernel
theorem bX8_cut_135 : Blk cX8_cut 8 none false 135 [(.istore 6, 2), (.iload 3, 1), (.iconst 7, 2), (.if_icmp .gt 179, 3), (.iconst 0, 1), (.istore 7, 2)] = true := by decide +kernel
theorem bX8_cut_146 : Blk cX8_cut 8 none false 146 [(.iload 7, 2), (.iconst 11, 2), (.if_icmp .ge 179, 3), (.aload 0, 1), (.getstatic 521, 3), (.iload 7, 2), (.laload, 1), (.lload 4, 2), (.lcmp, 1), (.ifCond .ne 173, 3), (.iconst 20, 2), (.iload 7, 2), (.iadd, 1), (.istore 6, 2)] = true := by decide +kernel
theorem bX8_cut_173 : Blk cX8_cut 8 none false 173 [(.iinc 7 1, 3), (.goto 146, 3)] = true := by decide +kernel
theorem bX8_cut_179 : Blk cX8_cut 8 none false 179 [(.aload 0, 1), (.iload 6, 2), (.iload 1, 1), (.iconst 0, 1), (.lload 4, 2)] = true := by decide +kernel
theorem bX8_cut_189 : Blk cX8_cut 8 none false 189 [(.iload 1, 1), (.iload 3, 1), (.iadd, 1), (.istore 1, 1), (.goto 291, 3)] = true := by decide +kernel
theorem bX8_cut_196 : Blk cX8_cut 8 none false 196 [(.iload 2, 1)] = true := by decide +kernel
theorem bX8_cut_200 : Blk cX8_cut 8 none false 200 [(.ifCond .eq 275, 3), (.iconst 0, 1), (.istore 3, 1), (.iconst 0, 1), (.istore 4, 2)] = true := by decide +kernel
theorem bX8_cut_208 : Blk cX8_cut 8 none false 208 [(.aload 0, 1), (.iload 1, 1), (.iload 3, 1), (.iadd, 1)] = true := by decide +kernel
theorem bX8_cut_218 : Blk cX8_cut 8 none false 218 [(.ifCond .eq 250, 3), (.iload 3, 1), (.iconst 4, 1), (.if_icmp .ge 244, 3), (.iconst 10, 2), (.iload 4, 2), (.imul, 1), (.aload 0, 1), (.iload 1, 1), (.iload 3, 1), (.iadd, 1)] = true := by decide +kernel
theorem bX8_cut_238 : Blk cX8_cut 8 none false 238 [(.iadd, 1), (.iconst 48, 2), (.isub, 1), (.istore 4, 2)] = true := by decide +kernel
theorem bX8_cut_244 : Blk cX8_cut 8 none false 244 [(.iinc 3 1, 3), (.goto 208, 3)] = true := by decide +kernel
theorem bX8_cut_250 : Blk cX8_cut 8 none false 250 [(.aload 0, 1), (.iload 3, 1), (.iconst 4, 1), (.if_icmp .le 260, 3), (.iconst 3, 1), (.goto 261, 3)] = true := by decide +kernel
theorem bX8_cut_260 : Blk cX8_cut 8 none false 260 [(.iconst 2, 1)] = true := by decide +kernel
theorem bX8_cut_261 : Blk cX8_cut 8 none false 261 [(.iload 1, 1), (.iload 4, 2), (.jsr 0, 1)] = true := by decide +kernel
theorem bX8_cut_268 : Blk cX8_cut 8 none false 268 [(.iload 1, 1), (.iload 3, 1), (.iadd, 1), (.istore 1, 1), (.goto 291, 3)] = true := by decide +kernel
theorem bX8_cut_275 : Blk cX8_cut 8 none false 275 [(.iload 1, 1), (.aload 0, 1), (.iload 1, 1), (.iload 2, 1), (.aload 0, 1), (.iload 1, 1), (.iconst 1, 1), (.iadd, 1)] = true := by decide +kernel
theorem bX8_cut_289 : Blk cX8_cut 8 none false 289 [(.iadd, 1), (.istore 1, 1)] = true := by decide +kernel
theorem bX8_cut_291 : Blk cX8_cut 8 none false 291 [(.goto 7, 3)] = true := by decide +kernel
theorem bX8_cut_294 : Blk cX8_cut 8 none false 294 [(.return_, 1)] = true := by decide +kernel
theorem bX8_sign_0 : Blk cX8_sign 8 (some .int) false 0 [(.iload 2, 1), (.iconst 61, 2), (.if_icmp .ne 16, 3), (.iload 3, 1), (.iconst 61, 2), (.if_icmp .ne 16, 3), (.iconst 1, 1), (.goto 17, 3)] = true := by decide +kernel
theorem bX8_sign_16 : Blk cX8_sign 8 (some .int) false 16 [(.iconst 0, 1)] = true := by decide +kernel
theorem bX8_sign_17 : Blk cX8_sign 8 (some .int) false 17 [(.istore 4, 2), (.aload 0, 1), (.iload 4, 2), (.ifCond .eq 29, 3), (.iconst 4, 1), (.goto 62, 3)] = true := by decide +kernel
theorem bX8_sign_29 : Blk cX8_sign 8 (some .int) false 29 [(.iload 2, 1), (.iconst 61, 2), (.if_icmp .ne 39, 3), (.iconst 5, 1), (.goto 62, 3)] = true := by decide +kernel
theorem bX8_sign_39 : Blk cX8_sign 8 (some .int) false 39 [(.iload 2, 1), (.iconst 59, 2), (.if_icmp .ne 50, 3), (.iconst 6, 2), (.goto 62, 3)] = true := by decide +kernel
theorem bX8_sign_50 : Blk cX8_sign 8 (some .int) false 50 [(.iload 2, 1), (.iconst 60, 2), (.if_icmp .ne 61, 3), (.iconst 7, 2), (.goto 62, 3)] = true := by decide +kernel
theorem bX8_sign_61 : Blk cX8_sign 8 (some .int) false 61 [(.iconst 3, 1)] = true := by decide +kernel
theorem bX8_sign_62 : Blk cX8_sign 8 (some .int) false 62 [(.iload 1, 1), (.iconst 0, 1), (.jsr 0, 1)] = true := by decide +kernel
theorem bX8_sign_68 : Blk cX8_sign 8 (some .int) false 68 [(.iload 4, 2), (.ifCond .eq 77, 3), (.iconst 2, 1), (.goto 78, 3)] = true := by decide +kernel
theorem bX8_sign_77 : Blk cX8_sign 8 (some .int) false 77 [(.iconst 1, 1)] = true := by decide +kernel
theorem bX8_sign_78 : Blk cX8_sign 8 (some .int) false 78 [(.ireturn, 1)] = true := by decide +kernel
theorem bX8_is_0 : Blk cX8_is 8 (some .boolean) false 0 [(.aload 0, 1), (.getfield 524, 3), (.ifCond .ne 24, 3), (.aload 0, 1), (.getstatic 517, 3), (.aload 0, 1), (.getfield 523, 3), (.iaload, 1), (.iload 1, 1), (.if_icmp .ne 24, 3), (.iconst 1, 1), (.goto 25, 3)] = true := by decide +kernel
theorem bX8_is_24 : Blk cX8_is 8 (some .boolean) false 24 [(.iconst 0, 1)] = true := by decide +kernel
theorem bX8_is_25 : Blk cX8_is 8 (some .boolean) false 25 [(.freturn, 1)] = true := by decide +kernel
theorem bX8_fail_0 : Blk cX8_fail 8 none false 0 [(.aload 0, 1), (.getfield 524, 3), (.ifCond .le 8, 3), (.return_, 1)] = true := by decide +kernel
theorem bX8_fail_8 : Blk cX8_fail 8 none false 8 [(.aload 0, 1), (.iload 1, 1), (.putfield 524, 3), (.aload 0, 1), (.aload 0, 1), (.getstatic 518, 3), (.aload 0, 1), (.getfield 523, 3), (.iaload, 1), (.putfield 525, 3), (.return_, 1)] = true := by decide +kernel
theorem bX8_wrong_0 : Blk cX8_wrong 8 none false 0 [(.aload 0, 1), (.getstatic 518, 3), (.iload 2, 1), (.iaload, 1), (.istore 3, 1), (.aload 0, 1), (.getfield 524, 3), (.ifCond .gt 45, 3), (.aload 0, 1), (.getfield 526, 3), (.ifCond .eq 46, 3), (.iload 3, 1), (.aload 0, 1), (.getfield 527, 3), (.if_icmp .gt 45, 3), (.iload 3, 1), (.aload 0, 1), (.getfield 527, 3), (.if_icmp .ne 46, 3), (.iload 1, 1), (.aload 0, 1), (.getfield 526, 3), (.if_icmp .lt 46, 3)] = true := by decide +kernel
theorem bX8_wrong_45 : Blk cX8_wrong 8 none false 45 [(.return_, 1)] = true := by decide +kernel
theorem bX8_wrong_46 : Blk cX8_wrong 8 none false 46 [(.aload 0, 1), (.iload 1, 1), (.putfield 526, 3), (.aload 0, 1), (.iload 3, 1), (.putfield 527, 3), (.return_, 1)] = true := by decide +kernel
theorem bX8_next_0 : Blk cX8_next 8 none false 0 [(.aload 0, 1), (.getfield 523, 3), (.iconst 300, 3), (.if_icmp .ne 18, 3), (.aload 0, 1), (.iconst 2, 1)] = true := by decide +kernel
theorem bX8_next_15 : Blk cX8_next 8 none false 15 [(.goto 28, 3)] = true := by decide +kernel
theorem bX8_next_18 : Blk cX8_next 8 none false 18 [(.aload 0, 1), (.dup, 1), (.getfield 523, 3), (.iconst 1, 1), (.iadd, 1), (.putfield 523, 3)] = true := by decide +kernel
theorem bX8_next_28 : Blk cX8_next 8 none false 28 [(.return_, 1)] = true := by decide +kernel
theorem bX8_must_0 : Blk cX8_must 8 none false 0 [(.aload 0, 1), (.iload 1, 1)] = true := by decide +kernel
theorem bX8_must_5 : Blk cX8_must 8 none false 5 [(.ifCond .eq 15, 3), (.aload 0, 1)] = true := by decide +kernel
theorem bX8_must_12 : Blk cX8_must 8 none false 12 [(.goto 20, 3)] = true := by decide +kernel
theorem bX8_must_15 : Blk cX8_must 8 none false 15 [(.aload 0, 1), (.iconst 1, 1)] = true := by decide +kernel
theorem bX8_must_20 : Blk cX8_must 8 none false 20 [(.return_, 1)] = true := by decide +kernel
theorem bX8_read_0 : Blk cX8_read 8 (some .int) false 0 [(.aload 0, 1), (.aload 0, 1), (.getfield 514, 3), (.putfield 516, 3), (.iconst 0, 1), (.istore 1, 1)] = true := by decide +kernel
theorem bX8_read_10 : Blk cX8_read 8 (some .int) false 10 [(.iload 1, 1), (.aload 0, 1), (.getfield 516, 3), (.if_icmp .ge 36, 3), (.aload 0, 1), (.getstatic 515, 3), (.iload 1, 1), (.aload 0, 1), (.getstatic 513, 3), (.iload 1, 1), (.baload, 1), (.bastore, 1), (.iinc 1 1, 3), (.goto 10, 3)] = true := by decide +kernel
theorem bX8_read_36 : Blk cX8_read 8 (some .int) false 36 [(.aload 0, 1), (.iconst 0, 1), (.putfield 514, 3), (.aload 0, 1)] = true := by decide +kernel
theorem bX8_read_45 : Blk cX8_read 8 (some .int) false 45 [(.aload 0, 1), (.iconst 0, 1), (.putfield 523, 3), (.aload 0, 1), (.iconst 0, 1), (.putfield 524, 3), (.aload 0, 1), (.iconst 0, 1), (.putfield 526, 3), (.aload 0, 1), (.iconst 1, 1), (.aload 0, 1), (.getfield 529, 3), (.isub, 1), (.putfield 530, 3), (.aload 0, 1), (.getstatic 531, 3), (.aload 0, 1), (.getfield 530, 3), (.iconst 0, 1), (.iastore, 1)] = true := by decide +kernel
theorem bX8_read_80 : Blk cX8_read 8 (some .int) false 80 [(.aload 0, 1), (.getfield 524, 3), (.ifCond .ne 102, 3), (.aload 0, 1), (.iconst 0, 1)] = true := by decide +kernel
theorem bX8_read_92 : Blk cX8_read 8 (some .int) false 92 [(.ifCond .ne 102, 3), (.aload 0, 1)] = true := by decide +kernel
theorem bX8_read_99 : Blk cX8_read 8 (some .int) false 99 [(.goto 80, 3)] = true := by decide +kernel
theorem bX8_read_102 : Blk cX8_read 8 (some .int) false 102 [(.aload 0, 1), (.aload 0, 1), (.getfield 524, 3), (.ifCond .le 117, 3), (.aload 0, 1), (.getfield 525, 3), (.goto 132, 3)] = true := by decide +kernel
theorem bX8_read_117 : Blk cX8_read 8 (some .int) false 117 [(.aload 0, 1), (.getfield 526, 3), (.ifCond .le 131, 3), (.aload 0, 1), (.getfield 527, 3), (.goto 132, 3)] = true := by decide +kernel
theorem bX8_read_131 : Blk cX8_read 8 (some .int) false 131 [(.iconst (-1), 1)] = true := by decide +kernel
theorem bX8_read_132 : Blk cX8_read 8 (some .int) false 132 [(.putfield 528, 3), (.aload 0, 1), (.getfield 524, 3), (.ifCond .le 147, 3), (.aload 0, 1), (.getfield 524, 3), (.ireturn, 1)] = true := by decide +kernel
theorem bX8_read_147 : Blk cX8_read 8 (some .int) false 147 [(.aload 0, 1), (.getfield 526, 3), (.ifCond .le 159, 3), (.aload 0, 1), (.getfield 526, 3), (.ireturn, 1)] = true := by decide +kernel
theorem bX8_read_159 : Blk cX8_read 8 (some .int) false 159 [(.aload 0, 1), (.aload 0, 1), (.getfield 530, 3), (.putfield 529, 3), (.iconst 0, 1), (.ireturn, 1)] = true := by decide +kernel
theorem bX8_place_0 : Blk cX8_place 8 (some .int) false 0 [(.aload 0, 1), (.getfield 528, 3), (.ireturn, 1)] = true := by decide +kernel
theorem bX8_number_0 : Blk cX8_number 8 (some .int) false 0 [(.aload 0, 1), (.iconst 2, 1)] = true := by decide +kernel
theorem bX8_number_5 : Blk cX8_number 8 (some .int) false 5 [(.ifCond .eq 20, 3), (.aload 0, 1), (.getstatic 519, 3), (.aload 0, 1), (.getfield 523, 3), (.iaload, 1), (.goto 21, 3)] = true := by decide +kernel
theorem bX8_number_20 : Blk cX8_number 8 (some .int) false 20 [(.iconst 0, 1)] = true := by decide +kernel
theorem bX8_number_21 : Blk cX8_number 8 (some .int) false 21 [(.istore 1, 1), (.aload 0, 1), (.iconst 2, 1)] = true := by decide +kernel
theorem bX8_number_27 : Blk cX8_number 8 (some .int) false 27 [(.iload 1, 1), (.ireturn, 1)] = true := by decide +kernel
theorem bX8_tellDeed_0 : Blk cX8_tellDeed 8 none false 0 [(.aload 0, 1), (.iconst 20, 2)] = true := by decide +kernel
theorem bX8_tellDeed_6 : Blk cX8_tellDeed 8 none false 6 [(.ifCond .ne 26, 3), (.aload 0, 1), (.iconst 28, 2)] = true := by decide +kernel
theorem bX8_tellDeed_15 : Blk cX8_tellDeed 8 none false 15 [(.ifCond .ne 26, 3), (.aload 0, 1), (.iconst 1, 1)] = true := by decide +kernel
theorem bX8_tellDeed_23 : Blk cX8_tellDeed 8 none false 23 [(.goto 45, 3)] = true := by decide +kernel
theorem bX8_tellDeed_26 : Blk cX8_tellDeed 8 none false 26 [(.aload 0, 1), (.getstatic 531, 3), (.aload 0, 1), (.getfield 530, 3), (.iaload, 1), (.iconst 8, 2), (.if_icmp .ne 45, 3), (.aload 0, 1), (.iconst 2, 1)] = true := by decide +kernel
theorem bX8_tellDeed_45 : Blk cX8_tellDeed 8 none false 45 [(.aload 0, 1), (.getfield 524, 3), (.ifCond .le 53, 3), (.return_, 1)] = true := by decide +kernel
theorem bX8_tellDeed_53 : Blk cX8_tellDeed 8 none false 53 [(.iconst 8, 2), (.aload 0, 1), (.getfield 530, 3), (.imul, 1), (.aload 0, 1), (.getstatic 531, 3), (.aload 0, 1), (.getfield 530, 3), (.iaload, 1), (.iadd, 1), (.istore 1, 1), (.aload 0, 1), (.getstatic 532, 3), (.iload 1, 1), (.aload 0, 1), (.iconst 28, 2)] = true := by decide +kernel
theorem bX8_tellDeed_82 : Blk cX8_tellDeed 8 none false 82 [(.castore, 1), (.aload 0, 1), (.getstatic 535, 3), (.iload 1, 1), (.iconst 0, 1), (.iastore, 1), (.aload 0, 1), (.getstatic 539, 3), (.iload 1, 1), (.iconst (-1), 1), (.iastore, 1), (.aload 0, 1), (.getstatic 542, 3), (.iload 1, 1), (.iconst (-1), 1), (.iastore, 1), (.aload 0, 1), (.getstatic 543, 3), (.iload 1, 1), (.iconst 0, 1), (.iastore, 1), (.aload 0, 1)] = true := by decide +kernel
theorem bX8_tellDeed_115 : Blk cX8_tellDeed 8 none false 115 [(.aload 0, 1), (.iconst 21, 2)] = true := by decide +kernel
theorem bX8_tellDeed_121 : Blk cX8_tellDeed 8 none false 121 [(.aload 0, 1), (.getfield 523, 3), (.istore 2, 1), (.aload 0, 1), (.getstatic 533, 3), (.iload 1, 1), (.aload 0, 1)] = true := by decide +kernel
theorem bX8_tellDeed_135 : Blk cX8_tellDeed 8 none false 135 [(.iastore, 1), (.aload 0, 1), (.getfield 524, 3), (.ifCond .ne 161, 3), (.aload 0, 1), (.getstatic 533, 3), (.iload 1, 1), (.iaload, 1), (.iconst 1000, 3), (.if_icmp .le 161, 3), (.aload 0, 1), (.iconst 5, 1), (.iload 2, 1)] = true := by decide +kernel
theorem bX8_tellDeed_161 : Blk cX8_tellDeed 8 none false 161 [(.aload 0, 1), (.aload 0, 1), (.getstatic 532, 3), (.iload 1, 1), (.caload, 1), (.ifCond .eq 176, 3), (.iconst 29, 2), (.goto 178, 3)] = true := by decide +kernel
theorem bX8_tellDeed_176 : Blk cX8_tellDeed 8 none false 176 [(.iconst 22, 2)] = true := by decide +kernel
theorem bX8_tellDeed_181 : Blk cX8_tellDeed 8 none false 181 [(.aload 0, 1), (.getfield 523, 3), (.istore 2, 1), (.aload 0, 1), (.getstatic 534, 3), (.iload 1, 1), (.aload 0, 1)] = true := by decide +kernel
theorem bX8_tellDeed_195 : Blk cX8_tellDeed 8 none false 195 [(.iastore, 1), (.aload 0, 1), (.getfield 524, 3), (.ifCond .ne 222, 3), (.aload 0, 1), (.getstatic 534, 3), (.iload 1, 1), (.iaload, 1), (.aload 0, 1), (.getfield 544, 3), (.if_icmp .lt 222, 3), (.aload 0, 1), (.iconst 4, 1), (.iload 2, 1)] = true := by decide +kernel
theorem bX8_tellDeed_222 : Blk cX8_tellDeed 8 none false 222 [(.aload 0, 1), (.getstatic 532, 3), (.iload 1, 1), (.caload, 1), (.ifCond .eq 289, 3), (.aload 0, 1), (.iconst 30, 2)] = true := by decide +kernel
theorem bX8_tellDeed_237 : Blk cX8_tellDeed 8 none false 237 [(.aload 0, 1), (.getfield 523, 3), (.istore 2, 1), (.aload 0, 1), (.getstatic 543, 3), (.iload 1, 1), (.aload 0, 1)] = true := by decide +kernel
theorem bX8_tellDeed_251 : Blk cX8_tellDeed 8 none false 251 [(.iastore, 1), (.aload 0, 1), (.getfield 524, 3), (.ifCond .ne 294, 3), (.aload 0, 1), (.getstatic 543, 3), (.iload 1, 1), (.iaload, 1), (.iconst 1, 1), (.if_icmp .lt 280, 3), (.aload 0, 1), (.getstatic 543, 3), (.iload 1, 1), (.iaload, 1), (.iconst 100, 2), (.if_icmp .le 294, 3)] = true := by decide +kernel
theorem bX8_tellDeed_280 : Blk cX8_tellDeed 8 none false 280 [(.aload 0, 1), (.iconst 5, 1), (.iload 2, 1)] = true := by decide +kernel
theorem bX8_tellDeed_286 : Blk cX8_tellDeed 8 none false 286 [(.goto 294, 3)] = true := by decide +kernel
theorem bX8_tellDeed_289 : Blk cX8_tellDeed 8 none false 289 [(.aload 0, 1), (.iload 1, 1)] = true := by decide +kernel
theorem bX8_tellDeed_294 : Blk cX8_tellDeed 8 none false 294 [(.aload 0, 1), (.iconst 6, 2)] = true := by decide +kernel
theorem bX8_tellDeed_300 : Blk cX8_tellDeed 8 none false 300 [(.aload 0, 1), (.getfield 524, 3), (.ifCond .ne 320, 3), (.aload 0, 1), (.getstatic 531, 3), (.aload 0, 1), (.getfield 530, 3), (.dup2, 1), (.iaload, 1), (.iconst 1, 1), (.iadd, 1), (.iastore, 1)] = true := by decide +kernel
theorem bX8_tellDeed_320 : Blk cX8_tellDeed 8 none false 320 [(.return_, 1)] = true := by decide +kernel
theorem bX8_column_0 : Blk cX8_column 8 none false 0 [(.aload 0, 1), (.getfield 524, 3), (.ifCond .ne 31, 3), (.iload 1, 1), (.aload 0, 1), (.getfield 544, 3), (.if_icmp .ge 25, 3), (.iload 2, 1), (.aload 0, 1), (.getstatic 545, 3), (.iload 1, 1), (.iaload, 1), (.if_icmp .lt 31, 3)] = true := by decide +kernel
theorem bX8_column_25 : Blk cX8_column 8 none false 25 [(.aload 0, 1), (.iconst 4, 1), (.iload 3, 1)] = true := by decide +kernel
theorem bX8_column_31 : Blk cX8_column 8 none false 31 [(.return_, 1)] = true := by decide +kernel
theorem bX8_tellAsk_0 : Blk cX8_tellAsk 8 none false 0 [(.aload 0, 1), (.iconst 23, 2)] = true := by decide +kernel
theorem bX8_tellAsk_6 : Blk cX8_tellAsk 8 none false 6 [(.ifCond .eq 62, 3), (.aload 0, 1)] = true := by decide +kernel
theorem bX8_tellAsk_13 : Blk cX8_tellAsk 8 none false 13 [(.aload 0, 1), (.iload 1, 1)] = true := by decide +kernel
theorem bX8_tellAsk_18 : Blk cX8_tellAsk 8 none false 18 [(.aload 0, 1), (.iconst 24, 2)] = true := by decide +kernel
theorem bX8_tellAsk_24 : Blk cX8_tellAsk 8 none false 24 [(.ifCond .eq 62, 3), (.aload 0, 1)] = true := by decide +kernel
theorem bX8_tellAsk_31 : Blk cX8_tellAsk 8 none false 31 [(.aload 0, 1), (.iconst 2, 1)] = true := by decide +kernel
theorem bX8_tellAsk_36 : Blk cX8_tellAsk 8 none false 36 [(.ifCond .eq 54, 3), (.aload 0, 1), (.getstatic 535, 3), (.iload 1, 1), (.iaload, 1), (.iconst 4, 1), (.if_icmp .ne 54, 3), (.aload 0, 1), (.iconst 2, 1)] = true := by decide +kernel
theorem bX8_tellAsk_54 : Blk cX8_tellAsk 8 none false 54 [(.aload 0, 1), (.iload 1, 1)] = true := by decide +kernel
theorem bX8_tellAsk_59 : Blk cX8_tellAsk 8 none false 59 [(.goto 18, 3)] = true := by decide +kernel
theorem bX8_tellAsk_62 : Blk cX8_tellAsk 8 none false 62 [(.aload 0, 1), (.iconst 25, 2)] = true := by decide +kernel
theorem bX8_tellAsk_68 : Blk cX8_tellAsk 8 none false 68 [(.ifCond .eq 191, 3), (.aload 0, 1)] = true := by decide +kernel
theorem bX8_tellAsk_75 : Blk cX8_tellAsk 8 none false 75 [(.aload 0, 1), (.getfield 523, 3), (.istore 2, 1), (.aload 0, 1), (.getstatic 539, 3), (.iload 1, 1), (.aload 0, 1)] = true := by decide +kernel
theorem bX8_tellAsk_89 : Blk cX8_tellAsk 8 none false 89 [(.iastore, 1), (.aload 0, 1), (.getfield 524, 3), (.ifCond .ne 116, 3), (.aload 0, 1), (.getstatic 539, 3), (.iload 1, 1), (.iaload, 1), (.aload 0, 1), (.getfield 544, 3), (.if_icmp .lt 116, 3), (.aload 0, 1), (.iconst 4, 1), (.iload 2, 1)] = true := by decide +kernel
theorem bX8_tellAsk_116 : Blk cX8_tellAsk 8 none false 116 [(.aload 0, 1), (.iconst 26, 2)] = true := by decide +kernel
theorem bX8_tellAsk_122 : Blk cX8_tellAsk 8 none false 122 [(.aload 0, 1), (.getfield 523, 3), (.istore 2, 1), (.aload 0, 1), (.getstatic 540, 3), (.iload 1, 1), (.aload 0, 1)] = true := by decide +kernel
theorem bX8_tellAsk_136 : Blk cX8_tellAsk 8 none false 136 [(.iastore, 1), (.aload 0, 1), (.aload 0, 1), (.getstatic 534, 3), (.iload 1, 1), (.iaload, 1), (.aload 0, 1), (.getstatic 540, 3), (.iload 1, 1), (.iaload, 1), (.iload 2, 1)] = true := by decide +kernel
theorem bX8_tellAsk_154 : Blk cX8_tellAsk 8 none false 154 [(.aload 0, 1), (.iconst 5, 1)] = true := by decide +kernel
theorem bX8_tellAsk_159 : Blk cX8_tellAsk 8 none false 159 [(.aload 0, 1), (.getfield 523, 3), (.istore 2, 1), (.aload 0, 1), (.getstatic 541, 3), (.iload 1, 1), (.aload 0, 1)] = true := by decide +kernel
theorem bX8_tellAsk_173 : Blk cX8_tellAsk 8 none false 173 [(.iastore, 1), (.aload 0, 1), (.aload 0, 1), (.getstatic 539, 3), (.iload 1, 1), (.iaload, 1), (.aload 0, 1), (.getstatic 541, 3), (.iload 1, 1), (.iaload, 1), (.iload 2, 1)] = true := by decide +kernel
theorem bX8_tellAsk_191 : Blk cX8_tellAsk 8 none false 191 [(.aload 0, 1), (.iconst 27, 2)] = true := by decide +kernel
theorem bX8_tellAsk_197 : Blk cX8_tellAsk 8 none false 197 [(.ifCond .eq 236, 3), (.aload 0, 1)] = true := by decide +kernel
theorem bX8_tellAsk_204 : Blk cX8_tellAsk 8 none false 204 [(.aload 0, 1), (.getfield 523, 3), (.istore 2, 1), (.aload 0, 1), (.getstatic 542, 3), (.iload 1, 1), (.aload 0, 1)] = true := by decide +kernel
theorem bX8_tellAsk_218 : Blk cX8_tellAsk 8 none false 218 [(.iastore, 1), (.aload 0, 1), (.aload 0, 1), (.getstatic 534, 3), (.iload 1, 1), (.iaload, 1), (.aload 0, 1), (.getstatic 542, 3), (.iload 1, 1), (.iaload, 1), (.iload 2, 1)] = true := by decide +kernel
theorem bX8_tellAsk_236 : Blk cX8_tellAsk 8 none false 236 [(.return_, 1)] = true := by decide +kernel
theorem bX8_cond_0 : Blk cX8_cond 8 none false 0 [(.aload 0, 1), (.getfield 523, 3), (.istore 2, 1), (.aload 0, 1)] = true := by decide +kernel
theorem bX8_cond_9 : Blk cX8_cond 8 none false 9 [(.istore 3, 1), (.aload 0, 1), (.getfield 524, 3), (.ifCond .le 18, 3), (.return_, 1)] = true := by decide +kernel
theorem bX8_cond_18 : Blk cX8_cond 8 none false 18 [(.aload 0, 1), (.aload 0, 1), (.getstatic 534, 3), (.iload 1, 1), (.iaload, 1), (.iload 3, 1), (.iload 2, 1)] = true := by decide +kernel
theorem bX8_cond_30 : Blk cX8_cond 8 none false 30 [(.iconst 4, 1), (.iload 1, 1), (.imul, 1), (.istore 4, 2)] = true := by decide +kernel
theorem bX8_cond_35 : Blk cX8_cond 8 none false 35 [(.iload 4, 2), (.iconst 4, 1), (.iload 1, 1), (.imul, 1), (.aload 0, 1), (.getstatic 535, 3), (.iload 1, 1), (.iaload, 1), (.iadd, 1), (.if_icmp .ge 73, 3), (.aload 0, 1), (.getstatic 536, 3), (.iload 4, 2), (.iaload, 1), (.iload 3, 1), (.if_icmp .ne 67, 3), (.aload 0, 1), (.iconst 3, 1), (.iload 2, 1)] = true := by decide +kernel
theorem bX8_cond_67 : Blk cX8_cond 8 none false 67 [(.iinc 4 1, 3), (.goto 35, 3)] = true := by decide +kernel
theorem bX8_cond_73 : Blk cX8_cond 8 none false 73 [(.aload 0, 1), (.iconst 4, 1)] = true := by decide +kernel
theorem bX8_cond_78 : Blk cX8_cond 8 none false 78 [(.istore 4, 2), (.iload 4, 2), (.ifCond .ne 99, 3), (.aload 0, 1), (.iconst 7, 2)] = true := by decide +kernel
theorem bX8_cond_91 : Blk cX8_cond 8 none false 91 [(.ifCond .ne 99, 3), (.aload 0, 1), (.iconst 1, 1)] = true := by decide +kernel
theorem bX8_cond_99 : Blk cX8_cond 8 none false 99 [(.aload 0, 1)] = true := by decide +kernel
theorem bX8_cond_103 : Blk cX8_cond 8 none false 103 [(.aload 0, 1), (.getfield 523, 3), (.istore 2, 1), (.aload 0, 1)] = true := by decide +kernel
theorem bX8_cond_112 : Blk cX8_cond 8 none false 112 [(.istore 5, 2), (.aload 0, 1), (.getfield 524, 3), (.ifCond .le 122, 3), (.return_, 1)] = true := by decide +kernel
theorem bX8_cond_122 : Blk cX8_cond 8 none false 122 [(.iload 5, 2), (.iconst 15, 2), (.if_icmp .le 135, 3), (.aload 0, 1), (.iconst 5, 1), (.iload 2, 1)] = true := by decide +kernel
theorem bX8_cond_135 : Blk cX8_cond 8 none false 135 [(.iconst 4, 1), (.iload 1, 1), (.imul, 1), (.aload 0, 1), (.getstatic 535, 3), (.iload 1, 1), (.iaload, 1), (.iadd, 1), (.istore 6, 2), (.aload 0, 1), (.getstatic 536, 3), (.iload 6, 2), (.iload 3, 1), (.iastore, 1), (.aload 0, 1), (.getstatic 537, 3), (.iload 6, 2), (.iload 4, 2), (.castore, 1), (.aload 0, 1), (.getstatic 538, 3), (.iload 6, 2), (.iload 5, 2), (.iastore, 1), (.aload 0, 1), (.getstatic 535, 3), (.iload 1, 1), (.dup2, 1), (.iaload, 1), (.iconst 1, 1), (.iadd, 1), (.iastore, 1), (.return_, 1)] = true := by decide +kernel
theorem bX8_table_0 : Blk cX8_table 8 (some .int) false 0 [(.aload 0, 1), (.getfield 544, 3), (.iconst 4, 1), (.if_icmp .eq 18, 3), (.iload 1, 1), (.iconst 1, 1), (.if_icmp .lt 18, 3), (.iload 1, 1), (.iconst 4, 1), (.if_icmp .le 20, 3)] = true := by decide +kernel
theorem bX8_table_18 : Blk cX8_table 8 (some .int) false 18 [(.iconst (-1), 1), (.ireturn, 1)] = true := by decide +kernel
theorem bX8_table_20 : Blk cX8_table 8 (some .int) false 20 [(.aload 0, 1), (.getstatic 545, 3), (.aload 0, 1), (.getfield 544, 3), (.iload 1, 1), (.iastore, 1), (.aload 0, 1), (.getstatic 546, 3), (.aload 0, 1), (.getfield 544, 3), (.iconst 0, 1), (.iastore, 1), (.aload 0, 1), (.dup, 1), (.getfield 544, 3), (.iconst 1, 1), (.iadd, 1), (.putfield 544, 3), (.aload 0, 1), (.getfield 544, 3), (.iconst 1, 1), (.isub, 1), (.ireturn, 1)] = true := by decide +kernel
theorem bX8_isValue_0 : Blk cX8_isValue 8 (some .boolean) false 0 [(.iload 3, 1), (.ifCond .lt 28, 3), (.iload 3, 1), (.iload 2, 1), (.aload 0, 1), (.getstatic 545, 3), (.iload 1, 1), (.iaload, 1), (.if_icmp .ge 20, 3), (.iconst 15, 2), (.goto 21, 3)] = true := by decide +kernel
theorem bX8_isValue_20 : Blk cX8_isValue 8 (some .boolean) false 20 [(.iconst 0, 1)] = true := by decide +kernel
theorem bX8_isValue_21 : Blk cX8_isValue 8 (some .boolean) false 21 [(.if_icmp .gt 28, 3), (.iconst 1, 1), (.goto 29, 3)] = true := by decide +kernel
theorem bX8_isValue_28 : Blk cX8_isValue 8 (some .boolean) false 28 [(.iconst 0, 1)] = true := by decide +kernel
theorem bX8_isValue_29 : Blk cX8_isValue 8 (some .boolean) false 29 [(.freturn, 1)] = true := by decide +kernel
theorem bX8_row_0 : Blk cX8_row 8 (some .int) false 0 [(.iload 1, 1), (.ifCond .lt 65, 3), (.iload 1, 1), (.aload 0, 1), (.getfield 544, 3), (.if_icmp .ge 65, 3), (.aload 0, 1), (.getstatic 546, 3), (.iload 1, 1), (.iaload, 1), (.iconst 64, 2), (.if_icmp .eq 65, 3), (.aload 0, 1), (.iload 1, 1), (.iconst 0, 1), (.iload 2, 1)] = true := by decide +kernel
theorem bX8_row_30 : Blk cX8_row 8 (some .int) false 30 [(.ifCond .eq 65, 3), (.aload 0, 1), (.iload 1, 1), (.iconst 1, 1), (.iload 3, 1)] = true := by decide +kernel
theorem bX8_row_40 : Blk cX8_row 8 (some .int) false 40 [(.ifCond .eq 65, 3), (.aload 0, 1), (.iload 1, 1), (.iconst 2, 1), (.iload 4, 2)] = true := by decide +kernel
theorem bX8_row_51 : Blk cX8_row 8 (some .int) false 51 [(.ifCond .eq 65, 3), (.aload 0, 1), (.iload 1, 1), (.iconst 3, 1), (.iload 5, 2)] = true := by decide +kernel
theorem bX8_row_62 : Blk cX8_row 8 (some .int) false 62 [(.ifCond .ne 67, 3)] = true := by decide +kernel
theorem bX8_row_65 : Blk cX8_row 8 (some .int) false 65 [(.iconst (-1), 1), (.ireturn, 1)] = true := by decide +kernel
theorem bX8_row_67 : Blk cX8_row 8 (some .int) false 67 [(.iconst 4, 1), (.iconst 64, 2), (.iload 1, 1), (.imul, 1), (.aload 0, 1), (.getstatic 546, 3), (.iload 1, 1), (.iaload, 1), (.iadd, 1), (.imul, 1), (.istore 6, 2), (.aload 0, 1), (.getstatic 547, 3), (.iload 6, 2), (.iload 2, 1), (.iastore, 1), (.aload 0, 1), (.getstatic 547, 3), (.iload 6, 2), (.iconst 1, 1), (.iadd, 1), (.iload 3, 1), (.iastore, 1), (.aload 0, 1), (.getstatic 547, 3), (.iload 6, 2), (.iconst 2, 1), (.iadd, 1), (.iload 4, 2), (.iastore, 1), (.aload 0, 1), (.getstatic 547, 3), (.iload 6, 2), (.iconst 3, 1), (.iadd, 1), (.iload 5, 2), (.iastore, 1), (.aload 0, 1), (.getstatic 546, 3), (.iload 1, 1), (.dup2, 1), (.iaload, 1), (.iconst 1, 1), (.iadd, 1), (.iastore, 1), (.aload 0, 1), (.getstatic 546, 3), (.iload 1, 1), (.iaload, 1), (.ireturn, 1)] = true := by decide +kernel
theorem bX8_room_0 : Blk cX8_room 8 (some .boolean) false 0 [(.iload 1, 1), (.ifCond .lt 11, 3), (.iload 1, 1), (.iconst 255, 3), (.if_icmp .le 13, 3)] = true := by decide +kernel
theorem bX8_room_11 : Blk cX8_room 8 (some .boolean) false 11 [(.iconst 0, 1), (.freturn, 1)] = true := by decide +kernel
theorem bX8_room_13 : Blk cX8_room 8 (some .boolean) false 13 [(.aload 0, 1), (.iload 1, 1), (.putfield 548, 3), (.iconst 1, 1), (.freturn, 1)] = true := by decide +kernel
theorem bX8_budget_0 : Blk cX8_budget 8 (some .boolean) false 0 [(.iload 1, 1), (.ifCond .lt 11, 3), (.iload 1, 1), (.iconst 800, 3), (.if_icmp .le 13, 3)] = true := by decide +kernel
theorem bX8_budget_11 : Blk cX8_budget 8 (some .boolean) false 11 [(.iconst 0, 1), (.freturn, 1)] = true := by decide +kernel
theorem bX8_budget_13 : Blk cX8_budget 8 (some .boolean) false 13 [(.aload 0, 1), (.iload 1, 1), (.putfield 549, 3), (.iconst 1, 1), (.freturn, 1)] = true := by decide +kernel
theorem bX8_index_0 : Blk cX8_index 8 (some .int) false 0 [(.aload 0, 1), (.getfield 550, 3), (.iconst 8, 2), (.if_icmp .eq 33, 3), (.iload 1, 1), (.ifCond .lt 33, 3), (.iload 1, 1), (.aload 0, 1), (.getfield 544, 3), (.if_icmp .ge 33, 3), (.iload 5, 2), (.ifCond .lt 33, 3), (.iload 5, 2), (.iconst 100, 2), (.if_icmp .le 35, 3)] = true := by decide +kernel
theorem bX8_index_33 : Blk cX8_index 8 (some .int) false 33 [(.iconst (-1), 1), (.ireturn, 1)] = true := by decide +kernel
theorem bX8_index_35 : Blk cX8_index 8 (some .int) false 35 [(.aload 0, 1), (.getstatic 545, 3), (.iload 1, 1), (.iaload, 1), (.istore 6, 2), (.iload 2, 1), (.ifCond .lt 77, 3), (.iload 2, 1), (.iload 6, 2), (.if_icmp .ge 77, 3), (.iload 3, 1), (.iconst (-1), 1), (.if_icmp .lt 77, 3), (.iload 3, 1), (.iload 6, 2), (.if_icmp .ge 77, 3), (.iload 4, 2), (.iconst (-1), 1), (.if_icmp .lt 77, 3), (.iload 4, 2), (.iload 6, 2), (.if_icmp .lt 79, 3)] = true := by decide +kernel
theorem bX8_index_77 : Blk cX8_index 8 (some .int) false 77 [(.iconst (-1), 1), (.ireturn, 1)] = true := by decide +kernel
theorem bX8_index_79 : Blk cX8_index 8 (some .int) false 79 [(.iload 3, 1), (.iload 2, 1), (.if_icmp .eq 107, 3), (.iload 4, 2), (.iconst (-1), 1), (.if_icmp .eq 109, 3), (.iload 3, 1), (.iconst (-1), 1), (.if_icmp .eq 107, 3), (.iload 4, 2), (.iload 2, 1), (.if_icmp .eq 107, 3), (.iload 4, 2), (.iload 3, 1), (.if_icmp .ne 109, 3)] = true := by decide +kernel
theorem bX8_index_107 : Blk cX8_index 8 (some .int) false 107 [(.iconst (-1), 1), (.ireturn, 1)] = true := by decide +kernel
theorem bX8_index_109 : Blk cX8_index 8 (some .int) false 109 [(.aload 0, 1), (.getstatic 551, 3), (.aload 0, 1), (.getfield 550, 3), (.iconst 1, 1), (.castore, 1), (.aload 0, 1), (.getstatic 552, 3), (.aload 0, 1), (.getfield 550, 3), (.iload 1, 1), (.iastore, 1), (.aload 0, 1), (.getstatic 554, 3), (.iconst 3, 1), (.aload 0, 1), (.getfield 550, 3), (.imul, 1), (.iload 2, 1), (.iastore, 1), (.aload 0, 1), (.getstatic 554, 3), (.iconst 3, 1), (.aload 0, 1), (.getfield 550, 3), (.imul, 1), (.iconst 1, 1), (.iadd, 1), (.iload 3, 1), (.iastore, 1), (.aload 0, 1), (.getstatic 554, 3), (.iconst 3, 1), (.aload 0, 1), (.getfield 550, 3), (.imul, 1), (.iconst 2, 1), (.iadd, 1), (.iload 4, 2), (.iastore, 1), (.aload 0, 1), (.getstatic 553, 3), (.aload 0, 1), (.getfield 550, 3), (.iload 3, 1), (.iconst (-1), 1), (.if_icmp .ne 187, 3), (.iconst 1, 1), (.goto 198, 3)] = true := by decide +kernel
theorem bX8_index_187 : Blk cX8_index 8 (some .int) false 187 [(.iload 4, 2), (.iconst (-1), 1), (.if_icmp .ne 197, 3), (.iconst 2, 1), (.goto 198, 3)] = true := by decide +kernel
theorem bX8_index_197 : Blk cX8_index 8 (some .int) false 197 [(.iconst 3, 1)] = true := by decide +kernel
theorem bX8_index_198 : Blk cX8_index 8 (some .int) false 198 [(.iastore, 1), (.aload 0, 1), (.getstatic 555, 3), (.aload 0, 1), (.getfield 550, 3), (.iconst 0, 1), (.iastore, 1), (.aload 0, 1), (.getstatic 556, 3), (.aload 0, 1), (.getfield 550, 3), (.iload 5, 2), (.iastore, 1), (.aload 0, 1), (.dup, 1), (.getfield 550, 3), (.iconst 1, 1), (.iadd, 1), (.putfield 550, 3), (.aload 0, 1), (.getfield 550, 3), (.iconst 1, 1), (.isub, 1), (.ireturn, 1)] = true := by decide +kernel
theorem bX8_more__0 : Blk cX8_more_ 8 (some .int) false 0 [(.aload 0, 1), (.getfield 550, 3), (.iconst 8, 2), (.if_icmp .eq 30, 3), (.iload 1, 1), (.iconst 1, 1), (.if_icmp .lt 30, 3), (.iload 1, 1), (.iconst 64, 2), (.if_icmp .gt 30, 3), (.iload 2, 1), (.ifCond .lt 30, 3), (.iload 2, 1), (.iconst 100, 2), (.if_icmp .le 32, 3)] = true := by decide +kernel
theorem bX8_more__30 : Blk cX8_more_ 8 (some .int) false 30 [(.iconst (-1), 1), (.ireturn, 1)] = true := by decide +kernel
theorem bX8_more__32 : Blk cX8_more_ 8 (some .int) false 32 [(.aload 0, 1), (.getstatic 551, 3), (.aload 0, 1), (.getfield 550, 3), (.iconst 0, 1), (.castore, 1), (.aload 0, 1), (.getstatic 552, 3), (.aload 0, 1), (.getfield 550, 3), (.iconst (-1), 1), (.iastore, 1), (.aload 0, 1), (.getstatic 553, 3), (.aload 0, 1), (.getfield 550, 3), (.iconst 0, 1), (.iastore, 1), (.aload 0, 1), (.getstatic 555, 3), (.aload 0, 1), (.getfield 550, 3), (.iload 1, 1), (.iastore, 1), (.aload 0, 1), (.getstatic 556, 3), (.aload 0, 1), (.getfield 550, 3), (.iload 2, 1), (.iastore, 1), (.aload 0, 1), (.dup, 1), (.getfield 550, 3), (.iconst 1, 1), (.iadd, 1), (.putfield 550, 3), (.aload 0, 1), (.getfield 550, 3), (.iconst 1, 1), (.isub, 1), (.ireturn, 1)] = true := by decide +kernel
theorem bX8_pages_0 : Blk cX8_pages 8 (some .int) false 0 [(.aload 0, 1), (.getstatic 546, 3), (.iload 1, 1), (.iaload, 1), (.iconst 7, 2), (.iadd, 1), (.iconst 8, 2), (.idiv, 1), (.ireturn, 1)] = true := by decide +kernel
theorem bX8_roomOf_0 : Blk cX8_roomOf 8 (some .int) false 0 [(.aload 0, 1), (.getfield 548, 3), (.istore 2, 1), (.iconst 0, 1), (.istore 3, 1)] = true := by decide +kernel
theorem bX8_roomOf_7 : Blk cX8_roomOf 8 (some .int) false 7 [(.iload 3, 1), (.aload 0, 1), (.getfield 550, 3), (.if_icmp .ge 39, 3), (.iload 1, 1), (.iload 3, 1), (.ishr, 1), (.iconst 1, 1), (.iand, 1), (.iconst 1, 1), (.if_icmp .ne 33, 3), (.iload 2, 1), (.aload 0, 1), (.getstatic 555, 3), (.iload 3, 1), (.iaload, 1), (.iadd, 1), (.istore 2, 1)] = true := by decide +kernel
theorem bX8_roomOf_33 : Blk cX8_roomOf 8 (some .int) false 33 [(.iinc 3 1, 3), (.goto 7, 3)] = true := by decide +kernel
theorem bX8_roomOf_39 : Blk cX8_roomOf 8 (some .int) false 39 [(.iload 2, 1), (.ireturn, 1)] = true := by decide +kernel
theorem bX8_holds_0 : Blk cX8_holds 8 (some .boolean) false 0 [(.aload 0, 1), (.getstatic 547, 3), (.iconst 4, 1), (.iconst 64, 2), (.iload 2, 1), (.imul, 1), (.iload 3, 1), (.iadd, 1), (.imul, 1), (.aload 0, 1), (.getstatic 536, 3), (.iload 1, 1), (.iaload, 1), (.iadd, 1), (.iaload, 1), (.istore 4, 2), (.aload 0, 1), (.getstatic 537, 3), (.iload 1, 1), (.caload, 1), (.ifCond .eq 50, 3), (.iload 4, 2), (.aload 0, 1), (.getstatic 538, 3), (.iload 1, 1), (.iaload, 1), (.if_icmp .ne 46, 3), (.iconst 1, 1), (.goto 66, 3)] = true := by decide +kernel
theorem bX8_holds_46 : Blk cX8_holds 8 (some .boolean) false 46 [(.iconst 0, 1), (.goto 66, 3)] = true := by decide +kernel
theorem bX8_holds_50 : Blk cX8_holds 8 (some .boolean) false 50 [(.iload 4, 2), (.aload 0, 1), (.getstatic 538, 3), (.iload 1, 1), (.iaload, 1), (.if_icmp .ge 65, 3), (.iconst 1, 1), (.goto 66, 3)] = true := by decide +kernel
theorem bX8_holds_65 : Blk cX8_holds 8 (some .boolean) false 65 [(.iconst 0, 1)] = true := by decide +kernel
theorem bX8_holds_66 : Blk cX8_holds 8 (some .boolean) false 66 [(.freturn, 1)] = true := by decide +kernel
theorem bX8_condOn_0 : Blk cX8_condOn 8 (some .int) false 0 [(.iconst 4, 1), (.iload 1, 1), (.imul, 1), (.istore 3, 1)] = true := by decide +kernel
theorem bX8_condOn_4 : Blk cX8_condOn 8 (some .int) false 4 [(.iload 3, 1), (.iconst 4, 1), (.iload 1, 1), (.imul, 1), (.aload 0, 1), (.getstatic 535, 3), (.iload 1, 1), (.iaload, 1), (.iadd, 1), (.if_icmp .ge 36, 3), (.aload 0, 1), (.getstatic 536, 3), (.iload 3, 1), (.iaload, 1), (.iload 2, 1), (.if_icmp .ne 30, 3), (.iload 3, 1), (.ireturn, 1)] = true := by decide +kernel
theorem bX8_condOn_30 : Blk cX8_condOn 8 (some .int) false 30 [(.iinc 3 1, 3), (.goto 4, 3)] = true := by decide +kernel
theorem bX8_condOn_36 : Blk cX8_condOn 8 (some .int) false 36 [(.iconst (-1), 1), (.ireturn, 1)] = true := by decide +kernel
theorem bX8_matching_0 : Blk cX8_matching 8 (some .int) false 0 [(.aload 0, 1), (.getstatic 534, 3), (.iload 1, 1), (.iaload, 1), (.istore 3, 1), (.iconst 0, 1), (.istore 4, 2), (.iconst 0, 1), (.istore 5, 2)] = true := by decide +kernel
theorem bX8_matching_13 : Blk cX8_matching 8 (some .int) false 13 [(.iload 5, 2), (.aload 0, 1), (.getstatic 546, 3), (.iload 3, 1), (.iaload, 1), (.if_icmp .ge 90, 3), (.iconst 1, 1), (.istore 6, 2), (.iconst 0, 1), (.istore 7, 2)] = true := by decide +kernel
theorem bX8_matching_30 : Blk cX8_matching 8 (some .int) false 30 [(.iload 7, 2), (.aload 0, 1), (.getstatic 535, 3), (.iload 1, 1), (.iaload, 1), (.if_icmp .ge 76, 3), (.iload 2, 1), (.iload 7, 2), (.ishr, 1), (.iconst 1, 1), (.iand, 1), (.iconst 1, 1), (.if_icmp .ne 70, 3), (.aload 0, 1), (.iconst 4, 1), (.iload 1, 1), (.imul, 1), (.iload 7, 2), (.iadd, 1), (.iload 3, 1), (.iload 5, 2)] = true := by decide +kernel
theorem bX8_matching_64 : Blk cX8_matching 8 (some .int) false 64 [(.ifCond .ne 70, 3), (.iconst 0, 1), (.istore 6, 2)] = true := by decide +kernel
theorem bX8_matching_70 : Blk cX8_matching 8 (some .int) false 70 [(.iinc 7 1, 3), (.goto 30, 3)] = true := by decide +kernel
theorem bX8_matching_76 : Blk cX8_matching 8 (some .int) false 76 [(.iload 6, 2), (.ifCond .eq 84, 3), (.iinc 4 1, 3)] = true := by decide +kernel
theorem bX8_matching_84 : Blk cX8_matching 8 (some .int) false 84 [(.iinc 5 1, 3), (.goto 13, 3)] = true := by decide +kernel
theorem bX8_matching_90 : Blk cX8_matching 8 (some .int) false 90 [(.iload 4, 2), (.ireturn, 1)] = true := by decide +kernel
theorem bX8_costOf_0 : Blk cX8_costOf 8 (some .int) false 0 [(.aload 0, 1), (.getstatic 532, 3), (.iload 1, 1), (.caload, 1), (.ifCond .eq 83, 3), (.aload 0, 1), (.getstatic 543, 3), (.iload 1, 1), (.iaload, 1), (.istore 3, 1), (.iconst 0, 1), (.istore 4, 2)] = true := by decide +kernel
theorem bX8_costOf_19 : Blk cX8_costOf 8 (some .int) false 19 [(.iload 4, 2), (.aload 0, 1), (.getfield 550, 3), (.if_icmp .ge 81, 3), (.iload 2, 1), (.iload 4, 2), (.ishr, 1), (.iconst 1, 1), (.iand, 1), (.iconst 1, 1), (.if_icmp .ne 75, 3), (.aload 0, 1), (.getstatic 551, 3), (.iload 4, 2), (.caload, 1), (.ifCond .eq 75, 3), (.aload 0, 1), (.getstatic 552, 3), (.iload 4, 2), (.iaload, 1), (.aload 0, 1), (.getstatic 534, 3), (.iload 1, 1), (.iaload, 1), (.if_icmp .ne 75, 3), (.iload 3, 1), (.iconst 2, 1), (.aload 0, 1), (.getstatic 543, 3), (.iload 1, 1), (.iaload, 1), (.imul, 1), (.iadd, 1), (.istore 3, 1)] = true := by decide +kernel
theorem bX8_costOf_75 : Blk cX8_costOf 8 (some .int) false 75 [(.iinc 4 1, 3), (.goto 19, 3)] = true := by decide +kernel
theorem bX8_costOf_81 : Blk cX8_costOf 8 (some .int) false 81 [(.iload 3, 1), (.ireturn, 1)] = true := by decide +kernel
theorem bX8_costOf_83 : Blk cX8_costOf 8 (some .int) false 83 [(.aload 0, 1), (.iload 1, 1), (.iconst 15, 2)] = true := by decide +kernel
theorem bX8_costOf_90 : Blk cX8_costOf 8 (some .int) false 90 [(.istore 3, 1), (.aload 0, 1), (.getstatic 542, 3), (.iload 1, 1), (.iaload, 1), (.iconst (-1), 1), (.if_icmp .ne 105, 3), (.iconst 0, 1), (.goto 121, 3)] = true := by decide +kernel
theorem bX8_costOf_105 : Blk cX8_costOf 8 (some .int) false 105 [(.iload 3, 1), (.aload 0, 1), (.iload 2, 1)] = true := by decide +kernel
theorem bX8_costOf_111 : Blk cX8_costOf 8 (some .int) false 111 [(.if_icmp .gt 118, 3), (.iload 3, 1), (.goto 121, 3)] = true := by decide +kernel
theorem bX8_costOf_118 : Blk cX8_costOf 8 (some .int) false 118 [(.iconst 3, 1), (.iload 3, 1), (.imul, 1)] = true := by decide +kernel
theorem bX8_costOf_121 : Blk cX8_costOf 8 (some .int) false 121 [(.istore 4, 2), (.aload 0, 1), (.iconst (-1), 1), (.putfield 557, 3), (.aload 0, 1), (.iload 3, 1), (.putfield 558, 3), (.aload 0, 1), (.iload 4, 2), (.putfield 559, 3), (.aload 0, 1), (.aload 0, 1), (.getstatic 534, 3), (.iload 1, 1), (.iaload, 1)] = true := by decide +kernel
theorem bX8_costOf_149 : Blk cX8_costOf 8 (some .int) false 149 [(.iload 4, 2), (.iadd, 1), (.istore 5, 2), (.iconst 0, 1), (.istore 6, 2)] = true := by decide +kernel
theorem bX8_costOf_157 : Blk cX8_costOf 8 (some .int) false 157 [(.iload 6, 2), (.aload 0, 1), (.getfield 550, 3), (.if_icmp .ge 278, 3), (.iload 2, 1), (.iload 6, 2), (.ishr, 1), (.iconst 1, 1), (.iand, 1), (.ifCond .eq 272, 3), (.aload 0, 1), (.getstatic 551, 3), (.iload 6, 2), (.caload, 1), (.ifCond .eq 272, 3), (.aload 0, 1), (.getstatic 552, 3), (.iload 6, 2), (.iaload, 1), (.aload 0, 1), (.getstatic 534, 3), (.iload 1, 1), (.iaload, 1), (.if_icmp .eq 204, 3), (.goto 272, 3)] = true := by decide +kernel
theorem bX8_costOf_204 : Blk cX8_costOf 8 (some .int) false 204 [(.aload 0, 1), (.iload 1, 1), (.iload 6, 2)] = true := by decide +kernel
theorem bX8_costOf_211 : Blk cX8_costOf 8 (some .int) false 211 [(.istore 7, 2), (.iload 7, 2), (.iconst (-1), 1), (.if_icmp .ne 222, 3), (.goto 272, 3)] = true := by decide +kernel
theorem bX8_costOf_222 : Blk cX8_costOf 8 (some .int) false 222 [(.aload 0, 1), (.iload 1, 1), (.iload 6, 2)] = true := by decide +kernel
theorem bX8_costOf_229 : Blk cX8_costOf 8 (some .int) false 229 [(.ifCond .eq 236, 3), (.iconst 0, 1), (.goto 238, 3)] = true := by decide +kernel
theorem bX8_costOf_236 : Blk cX8_costOf 8 (some .int) false 236 [(.iload 4, 2)] = true := by decide +kernel
theorem bX8_costOf_238 : Blk cX8_costOf 8 (some .int) false 238 [(.istore 8, 2), (.iload 7, 2), (.iload 8, 2), (.iadd, 1), (.iload 5, 2), (.if_icmp .lt 253, 3), (.goto 272, 3)] = true := by decide +kernel
theorem bX8_costOf_253 : Blk cX8_costOf 8 (some .int) false 253 [(.iload 7, 2), (.iload 8, 2), (.iadd, 1), (.istore 5, 2), (.aload 0, 1), (.iload 6, 2), (.putfield 557, 3), (.aload 0, 1), (.iload 8, 2), (.putfield 559, 3)] = true := by decide +kernel
theorem bX8_costOf_272 : Blk cX8_costOf 8 (some .int) false 272 [(.iinc 6 1, 3), (.goto 157, 3)] = true := by decide +kernel
theorem bX8_costOf_278 : Blk cX8_costOf 8 (some .int) false 278 [(.aload 0, 1), (.iload 1, 1), (.iload 2, 1), (.iload 3, 1)] = true := by decide +kernel
theorem bX8_costOf_285 : Blk cX8_costOf 8 (some .int) false 285 [(.iload 5, 2), (.aload 0, 1), (.getfield 561, 3), (.iadd, 1), (.ireturn, 1)] = true := by decide +kernel
theorem bX8_byIndex_0 : Blk cX8_byIndex 8 (some .int) false 0 [(.iconst 0, 1), (.istore 3, 1), (.iconst 1, 1), (.istore 4, 2), (.iconst 0, 1), (.istore 5, 2)] = true := by decide +kernel
theorem bX8_byIndex_8 : Blk cX8_byIndex 8 (some .int) false 8 [(.iload 5, 2), (.aload 0, 1), (.getstatic 553, 3), (.iload 2, 1), (.iaload, 1), (.if_icmp .ge 88, 3), (.iload 4, 2), (.ifCond .eq 88, 3), (.aload 0, 1), (.iload 1, 1), (.aload 0, 1), (.getstatic 554, 3), (.iconst 3, 1), (.iload 2, 1), (.imul, 1), (.iload 5, 2), (.iadd, 1), (.iaload, 1)] = true := by decide +kernel
theorem bX8_byIndex_40 : Blk cX8_byIndex 8 (some .int) false 40 [(.istore 6, 2), (.iload 6, 2), (.iconst (-1), 1), (.if_icmp .eq 59, 3), (.iload 3, 1), (.iconst 1, 1), (.iload 6, 2), (.iconst 4, 1), (.iload 1, 1), (.imul, 1), (.isub, 1), (.ishl, 1), (.ior, 1), (.istore 3, 1)] = true := by decide +kernel
theorem bX8_byIndex_59 : Blk cX8_byIndex 8 (some .int) false 59 [(.iload 6, 2), (.iconst (-1), 1), (.if_icmp .eq 79, 3), (.aload 0, 1), (.getstatic 537, 3), (.iload 6, 2), (.caload, 1), (.ifCond .eq 79, 3), (.iconst 1, 1), (.goto 80, 3)] = true := by decide +kernel
theorem bX8_byIndex_79 : Blk cX8_byIndex 8 (some .int) false 79 [(.iconst 0, 1)] = true := by decide +kernel
theorem bX8_byIndex_80 : Blk cX8_byIndex 8 (some .int) false 80 [(.istore 4, 2), (.iinc 5 1, 3), (.goto 8, 3)] = true := by decide +kernel
theorem bX8_byIndex_88 : Blk cX8_byIndex 8 (some .int) false 88 [(.iload 3, 1), (.ifCond .ne 94, 3), (.iconst (-1), 1), (.ireturn, 1)] = true := by decide +kernel
theorem bX8_byIndex_94 : Blk cX8_byIndex 8 (some .int) false 94 [(.aload 0, 1), (.iload 1, 1), (.iload 3, 1)] = true := by decide +kernel
theorem bX8_byIndex_100 : Blk cX8_byIndex 8 (some .int) false 100 [(.istore 5, 2), (.iconst 1, 1), (.iload 5, 2), (.iconst 15, 2), (.iadd, 1), (.iconst 16, 2), (.idiv, 1), (.iadd, 1), (.iload 5, 2), (.iadd, 1), (.ireturn, 1)] = true := by decide +kernel
theorem bX8_isSorted_0 : Blk cX8_isSorted 8 (some .boolean) false 0 [(.iconst 0, 1), (.istore 3, 1)] = true := by decide +kernel
theorem bX8_isSorted_2 : Blk cX8_isSorted 8 (some .boolean) false 2 [(.iload 3, 1), (.aload 0, 1), (.getstatic 553, 3), (.iload 2, 1), (.iaload, 1), (.if_icmp .ge 74, 3), (.aload 0, 1), (.getstatic 554, 3), (.iconst 3, 1), (.iload 2, 1), (.imul, 1), (.iload 3, 1), (.iadd, 1), (.iaload, 1), (.aload 0, 1), (.getstatic 542, 3), (.iload 1, 1), (.iaload, 1), (.if_icmp .ne 33, 3), (.iconst 1, 1), (.freturn, 1)] = true := by decide +kernel
theorem bX8_isSorted_33 : Blk cX8_isSorted 8 (some .boolean) false 33 [(.aload 0, 1), (.iload 1, 1), (.aload 0, 1), (.getstatic 554, 3), (.iconst 3, 1), (.iload 2, 1), (.imul, 1), (.iload 3, 1), (.iadd, 1), (.iaload, 1)] = true := by decide +kernel
theorem bX8_isSorted_48 : Blk cX8_isSorted 8 (some .boolean) false 48 [(.istore 4, 2), (.iload 4, 2), (.iconst (-1), 1), (.if_icmp .eq 66, 3), (.aload 0, 1), (.getstatic 537, 3), (.iload 4, 2), (.caload, 1), (.ifCond .ne 68, 3)] = true := by decide +kernel
theorem bX8_isSorted_66 : Blk cX8_isSorted 8 (some .boolean) false 66 [(.iconst 0, 1), (.freturn, 1)] = true := by decide +kernel
theorem bX8_isSorted_68 : Blk cX8_isSorted 8 (some .boolean) false 68 [(.iinc 3 1, 3), (.goto 2, 3)] = true := by decide +kernel
theorem bX8_isSorted_74 : Blk cX8_isSorted 8 (some .boolean) false 74 [(.iconst 0, 1), (.freturn, 1)] = true := by decide +kernel
theorem bX8_joins_0 : Blk cX8_joins 8 none false 0 [(.aload 0, 1), (.iconst (-1), 1), (.putfield 560, 3), (.aload 0, 1), (.iconst 0, 1), (.putfield 561, 3), (.aload 0, 1), (.getstatic 539, 3), (.iload 1, 1), (.iaload, 1), (.iconst (-1), 1), (.if_icmp .ne 21, 3), (.return_, 1)] = true := by decide +kernel
theorem bX8_joins_21 : Blk cX8_joins 8 none false 21 [(.aload 0, 1), (.getstatic 539, 3), (.iload 1, 1), (.iaload, 1), (.istore 4, 2), (.aload 0, 1), (.aload 0, 1), (.iload 4, 2)] = true := by decide +kernel
theorem bX8_joins_36 : Blk cX8_joins 8 none false 36 [(.iload 3, 1), (.imul, 1), (.putfield 561, 3), (.aload 0, 1), (.getstatic 546, 3), (.iload 4, 2), (.iaload, 1), (.aload 0, 1), (.iload 2, 1)] = true := by decide +kernel
theorem bX8_joins_53 : Blk cX8_joins 8 none false 53 [(.if_icmp .gt 83, 3), (.aload 0, 1), (.iload 4, 2)] = true := by decide +kernel
theorem bX8_joins_62 : Blk cX8_joins 8 none false 62 [(.iload 3, 1), (.iadd, 1), (.aload 0, 1), (.getfield 561, 3), (.if_icmp .ge 83, 3), (.aload 0, 1), (.aload 0, 1), (.iload 4, 2)] = true := by decide +kernel
theorem bX8_joins_78 : Blk cX8_joins 8 none false 78 [(.iload 3, 1), (.iadd, 1), (.putfield 561, 3)] = true := by decide +kernel
theorem bX8_joins_83 : Blk cX8_joins 8 none false 83 [(.iconst 0, 1), (.istore 5, 2)] = true := by decide +kernel
theorem bX8_joins_86 : Blk cX8_joins 8 none false 86 [(.iload 5, 2), (.aload 0, 1), (.getfield 550, 3), (.if_icmp .ge 184, 3), (.iload 2, 1), (.iload 5, 2), (.ishr, 1), (.iconst 1, 1), (.iand, 1), (.ifCond .eq 178, 3), (.aload 0, 1), (.getstatic 551, 3), (.iload 5, 2), (.caload, 1), (.ifCond .eq 178, 3), (.aload 0, 1), (.getstatic 552, 3), (.iload 5, 2), (.iaload, 1), (.iload 4, 2), (.if_icmp .ne 178, 3), (.aload 0, 1), (.getstatic 554, 3), (.iconst 3, 1), (.iload 5, 2), (.imul, 1), (.iaload, 1), (.aload 0, 1), (.getstatic 541, 3), (.iload 1, 1), (.iaload, 1), (.if_icmp .eq 147, 3), (.goto 178, 3)] = true := by decide +kernel
theorem bX8_joins_147 : Blk cX8_joins 8 none false 147 [(.aload 0, 1), (.iload 1, 1)] = true := by decide +kernel
theorem bX8_joins_152 : Blk cX8_joins 8 none false 152 [(.istore 6, 2), (.iload 6, 2), (.aload 0, 1), (.getfield 561, 3), (.if_icmp .lt 166, 3), (.goto 178, 3)] = true := by decide +kernel
theorem bX8_joins_166 : Blk cX8_joins 8 none false 166 [(.aload 0, 1), (.iload 6, 2), (.putfield 561, 3), (.aload 0, 1), (.iload 5, 2), (.putfield 560, 3)] = true := by decide +kernel
theorem bX8_joins_178 : Blk cX8_joins 8 none false 178 [(.iinc 5 1, 3), (.goto 86, 3)] = true := by decide +kernel
theorem bX8_joins_184 : Blk cX8_joins 8 none false 184 [(.return_, 1)] = true := by decide +kernel
theorem bX8_joinBy_0 : Blk cX8_joinBy 8 (some .int) false 0 [(.aload 0, 1), (.getstatic 534, 3), (.iload 1, 1), (.iaload, 1), (.istore 2, 1), (.aload 0, 1), (.getstatic 539, 3), (.iload 1, 1), (.iaload, 1), (.istore 3, 1), (.iconst 0, 1), (.istore 4, 2), (.iconst 0, 1), (.istore 5, 2)] = true := by decide +kernel
theorem bX8_joinBy_20 : Blk cX8_joinBy 8 (some .int) false 20 [(.iload 5, 2), (.aload 0, 1), (.getstatic 546, 3), (.iload 2, 1), (.iaload, 1), (.if_icmp .ge 189, 3), (.iconst 1, 1), (.istore 6, 2), (.iconst 0, 1), (.istore 7, 2)] = true := by decide +kernel
theorem bX8_joinBy_37 : Blk cX8_joinBy 8 (some .int) false 37 [(.iload 7, 2), (.aload 0, 1), (.getstatic 535, 3), (.iload 1, 1), (.iaload, 1), (.if_icmp .ge 82, 3), (.iload 6, 2), (.ifCond .eq 73, 3), (.aload 0, 1), (.iconst 4, 1), (.iload 1, 1), (.imul, 1), (.iload 7, 2), (.iadd, 1), (.iload 2, 1), (.iload 5, 2)] = true := by decide +kernel
theorem bX8_joinBy_66 : Blk cX8_joinBy 8 (some .int) false 66 [(.ifCond .eq 73, 3), (.iconst 1, 1), (.goto 74, 3)] = true := by decide +kernel
theorem bX8_joinBy_73 : Blk cX8_joinBy 8 (some .int) false 73 [(.iconst 0, 1)] = true := by decide +kernel
theorem bX8_joinBy_74 : Blk cX8_joinBy 8 (some .int) false 74 [(.istore 6, 2), (.iinc 7 1, 3), (.goto 37, 3)] = true := by decide +kernel
theorem bX8_joinBy_82 : Blk cX8_joinBy 8 (some .int) false 82 [(.iload 6, 2), (.ifCond .ne 90, 3), (.goto 183, 3)] = true := by decide +kernel
theorem bX8_joinBy_90 : Blk cX8_joinBy 8 (some .int) false 90 [(.aload 0, 1), (.getstatic 547, 3), (.iconst 4, 1), (.iconst 64, 2), (.iload 2, 1), (.imul, 1), (.iload 5, 2), (.iadd, 1), (.imul, 1), (.aload 0, 1), (.getstatic 540, 3), (.iload 1, 1), (.iaload, 1), (.iadd, 1), (.iaload, 1), (.istore 7, 2), (.iconst 0, 1), (.istore 8, 2), (.iconst 0, 1), (.istore 9, 2)] = true := by decide +kernel
theorem bX8_joinBy_119 : Blk cX8_joinBy 8 (some .int) false 119 [(.iload 9, 2), (.aload 0, 1), (.getstatic 546, 3), (.iload 3, 1), (.iaload, 1), (.if_icmp .ge 165, 3), (.aload 0, 1), (.getstatic 547, 3), (.iconst 4, 1), (.iconst 64, 2), (.iload 3, 1), (.imul, 1), (.iload 9, 2), (.iadd, 1), (.imul, 1), (.aload 0, 1), (.getstatic 541, 3), (.iload 1, 1), (.iaload, 1), (.iadd, 1), (.iaload, 1), (.iload 7, 2), (.if_icmp .ne 159, 3), (.iinc 8 1, 3)] = true := by decide +kernel
theorem bX8_joinBy_159 : Blk cX8_joinBy 8 (some .int) false 159 [(.iinc 9 1, 3), (.goto 119, 3)] = true := by decide +kernel
theorem bX8_joinBy_165 : Blk cX8_joinBy 8 (some .int) false 165 [(.iload 4, 2), (.iconst 1, 1), (.iload 8, 2), (.iconst 15, 2), (.iadd, 1), (.iconst 16, 2), (.idiv, 1), (.iadd, 1), (.iload 8, 2), (.iadd, 1), (.iadd, 1), (.istore 4, 2)] = true := by decide +kernel
theorem bX8_joinBy_183 : Blk cX8_joinBy 8 (some .int) false 183 [(.iinc 5 1, 3), (.goto 20, 3)] = true := by decide +kernel
theorem bX8_joinBy_189 : Blk cX8_joinBy 8 (some .int) false 189 [(.iload 4, 2), (.ireturn, 1)] = true := by decide +kernel
theorem bX8_costOfAll_0 : Blk cX8_costOfAll 8 (some .int) false 0 [(.iconst 0, 1), (.istore 2, 1), (.iconst 8, 2), (.aload 0, 1), (.getfield 529, 3), (.imul, 1), (.istore 3, 1)] = true := by decide +kernel
theorem bX8_costOfAll_10 : Blk cX8_costOfAll 8 (some .int) false 10 [(.iload 3, 1), (.iconst 8, 2), (.aload 0, 1), (.getfield 529, 3), (.imul, 1), (.aload 0, 1), (.getstatic 531, 3), (.aload 0, 1), (.getfield 529, 3), (.iaload, 1), (.iadd, 1), (.if_icmp .ge 53, 3), (.iload 2, 1), (.aload 0, 1), (.getstatic 533, 3), (.iload 3, 1), (.iaload, 1), (.aload 0, 1), (.iload 3, 1), (.iload 1, 1)] = true := by decide +kernel
theorem bX8_costOfAll_44 : Blk cX8_costOfAll 8 (some .int) false 44 [(.imul, 1), (.iadd, 1), (.istore 2, 1), (.iinc 3 1, 3), (.goto 10, 3)] = true := by decide +kernel
theorem bX8_costOfAll_53 : Blk cX8_costOfAll 8 (some .int) false 53 [(.iload 2, 1), (.ireturn, 1)] = true := by decide +kernel
theorem bX8_isSet_0 : Blk cX8_isSet 8 (some .boolean) false 0 [(.iload 1, 1), (.ifCond .lt 18, 3), (.iload 1, 1), (.iconst 1, 1), (.aload 0, 1), (.getfield 550, 3), (.ishl, 1), (.if_icmp .ge 18, 3), (.iconst 1, 1), (.goto 19, 3)] = true := by decide +kernel
theorem bX8_isSet_18 : Blk cX8_isSet 8 (some .boolean) false 18 [(.iconst 0, 1)] = true := by decide +kernel
theorem bX8_isSet_19 : Blk cX8_isSet 8 (some .boolean) false 19 [(.freturn, 1)] = true := by decide +kernel
theorem bX8_cost_0 : Blk cX8_cost 8 (some .int) false 0 [(.aload 0, 1), (.iload 1, 1)] = true := by decide +kernel
theorem bX8_cost_5 : Blk cX8_cost 8 (some .int) false 5 [(.ifCond .eq 16, 3), (.aload 0, 1), (.iload 1, 1)] = true := by decide +kernel
theorem bX8_cost_13 : Blk cX8_cost 8 (some .int) false 13 [(.goto 17, 3)] = true := by decide +kernel
theorem bX8_cost_16 : Blk cX8_cost 8 (some .int) false 16 [(.iconst (-1), 1)] = true := by decide +kernel
theorem bX8_cost_17 : Blk cX8_cost 8 (some .int) false 17 [(.ireturn, 1)] = true := by decide +kernel
theorem bX8_deed_0 : Blk cX8_deed 8 (some .int) false 0 [(.iload 1, 1), (.ifCond .lt 25, 3), (.iload 1, 1), (.aload 0, 1), (.getstatic 531, 3), (.aload 0, 1), (.getfield 529, 3), (.iaload, 1), (.if_icmp .ge 25, 3), (.aload 0, 1), (.iload 2, 1)] = true := by decide +kernel
theorem bX8_deed_22 : Blk cX8_deed 8 (some .int) false 22 [(.ifCond .ne 29, 3)] = true := by decide +kernel
theorem bX8_deed_25 : Blk cX8_deed 8 (some .int) false 25 [(.iconst (-1), 1), (.goto 43, 3)] = true := by decide +kernel
theorem bX8_deed_29 : Blk cX8_deed 8 (some .int) false 29 [(.aload 0, 1), (.iconst 8, 2), (.aload 0, 1), (.getfield 529, 3), (.imul, 1), (.iload 1, 1), (.iadd, 1), (.iload 2, 1)] = true := by decide +kernel
theorem bX8_deed_43 : Blk cX8_deed 8 (some .int) false 43 [(.ireturn, 1)] = true := by decide +kernel
theorem bX8_way_0 : Blk cX8_way 8 (some .int) false 0 [(.iload 1, 1), (.ifCond .lt 34, 3), (.iload 1, 1), (.aload 0, 1), (.getstatic 531, 3), (.aload 0, 1), (.getfield 529, 3), (.iaload, 1), (.if_icmp .ge 34, 3), (.aload 0, 1), (.iload 2, 1)] = true := by decide +kernel
theorem bX8_way_22 : Blk cX8_way 8 (some .int) false 22 [(.ifCond .eq 34, 3), (.iload 3, 1), (.ifCond .lt 34, 3), (.iload 3, 1), (.iconst 4, 1), (.if_icmp .le 37, 3)] = true := by decide +kernel
theorem bX8_way_34 : Blk cX8_way 8 (some .int) false 34 [(.iconst (-3), 2), (.ireturn, 1)] = true := by decide +kernel
theorem bX8_way_37 : Blk cX8_way 8 (some .int) false 37 [(.aload 0, 1), (.getstatic 532, 3), (.iconst 8, 2), (.aload 0, 1), (.getfield 529, 3), (.imul, 1), (.iload 1, 1), (.iadd, 1), (.caload, 1), (.ifCond .eq 57, 3), (.iconst (-2), 2), (.ireturn, 1)] = true := by decide +kernel
theorem bX8_way_57 : Blk cX8_way 8 (some .int) false 57 [(.aload 0, 1), (.iconst 8, 2), (.aload 0, 1), (.getfield 529, 3), (.imul, 1), (.iload 1, 1), (.iadd, 1), (.iload 2, 1)] = true := by decide +kernel
theorem bX8_way_71 : Blk cX8_way 8 (some .int) false 71 [(.istore 4, 2), (.iload 3, 1)] = true := by decide +kernel
theorem bX8_way_104 : Blk cX8_way 8 (some .int) false 104 [(.aload 0, 1), (.getfield 557, 3), (.ireturn, 1)] = true := by decide +kernel
theorem bX8_way_109 : Blk cX8_way 8 (some .int) false 109 [(.aload 0, 1), (.getfield 558, 3), (.ireturn, 1)] = true := by decide +kernel
theorem bX8_way_114 : Blk cX8_way 8 (some .int) false 114 [(.aload 0, 1), (.getfield 559, 3), (.ireturn, 1)] = true := by decide +kernel
theorem bX8_way_119 : Blk cX8_way 8 (some .int) false 119 [(.aload 0, 1), (.getfield 560, 3), (.ireturn, 1)] = true := by decide +kernel
theorem bX8_way_124 : Blk cX8_way 8 (some .int) false 124 [(.aload 0, 1), (.getfield 561, 3), (.ireturn, 1)] = true := by decide +kernel
theorem bX8_bits_0 : Blk cX8_bits 8 (some .int) false 0 [(.iconst 0, 1), (.istore 1, 1), (.iconst 0, 1), (.istore 2, 1)] = true := by decide +kernel
theorem bX8_bits_4 : Blk cX8_bits 8 (some .int) false 4 [(.iload 2, 1), (.iconst 8, 2), (.if_icmp .ge 24, 3), (.iload 1, 1), (.iload 0, 1), (.iload 2, 1), (.ishr, 1), (.iconst 1, 1), (.iand, 1), (.iadd, 1), (.istore 1, 1), (.iinc 2 1, 3), (.goto 4, 3)] = true := by decide +kernel
theorem bX8_bits_24 : Blk cX8_bits 8 (some .int) false 24 [(.iload 1, 1), (.ireturn, 1)] = true := by decide +kernel
theorem bX8_priceOf_0 : Blk cX8_priceOf 8 (some .int) false 0 [(.iconst 0, 1), (.istore 2, 1), (.iconst 0, 1), (.istore 3, 1)] = true := by decide +kernel
theorem bX8_priceOf_4 : Blk cX8_priceOf 8 (some .int) false 4 [(.iload 3, 1), (.aload 0, 1), (.getfield 550, 3), (.if_icmp .ge 36, 3), (.iload 1, 1), (.iload 3, 1), (.ishr, 1), (.iconst 1, 1), (.iand, 1), (.iconst 1, 1), (.if_icmp .ne 30, 3), (.iload 2, 1), (.aload 0, 1), (.getstatic 556, 3), (.iload 3, 1), (.iaload, 1), (.iadd, 1), (.istore 2, 1)] = true := by decide +kernel
theorem bX8_priceOf_30 : Blk cX8_priceOf 8 (some .int) false 30 [(.iinc 3 1, 3), (.goto 4, 3)] = true := by decide +kernel
theorem bX8_priceOf_36 : Blk cX8_priceOf 8 (some .int) false 36 [(.iload 2, 1), (.ireturn, 1)] = true := by decide +kernel
theorem bX8_best_0 : Blk cX8_best 8 (some .int) false 0 [(.iconst 0, 1), (.istore 1, 1), (.aload 0, 1), (.iconst 0, 1)] = true := by decide +kernel
theorem bX8_best_7 : Blk cX8_best 8 (some .int) false 7 [(.istore 2, 1), (.iconst 1, 1), (.istore 3, 1)] = true := by decide +kernel
theorem bX8_best_10 : Blk cX8_best 8 (some .int) false 10 [(.iload 3, 1), (.iconst 1, 1), (.aload 0, 1), (.getfield 550, 3), (.ishl, 1), (.if_icmp .ge 77, 3), (.aload 0, 1), (.iload 3, 1)] = true := by decide +kernel
theorem bX8_best_25 : Blk cX8_best 8 (some .int) false 25 [(.aload 0, 1), (.getfield 549, 3), (.if_icmp .le 35, 3), (.goto 71, 3)] = true := by decide +kernel
theorem bX8_best_35 : Blk cX8_best 8 (some .int) false 35 [(.aload 0, 1), (.iload 3, 1)] = true := by decide +kernel
theorem bX8_best_40 : Blk cX8_best 8 (some .int) false 40 [(.istore 4, 2), (.iload 4, 2), (.iload 2, 1), (.if_icmp .gt 71, 3), (.iload 4, 2), (.iload 2, 1), (.if_icmp .ne 66, 3), (.aload 0, 1), (.iload 3, 1), (.iload 1, 1)] = true := by decide +kernel
theorem bX8_best_60 : Blk cX8_best 8 (some .int) false 60 [(.ifCond .ne 66, 3), (.goto 71, 3)] = true := by decide +kernel
theorem bX8_best_66 : Blk cX8_best 8 (some .int) false 66 [(.iload 3, 1), (.istore 1, 1), (.iload 4, 2), (.istore 2, 1)] = true := by decide +kernel
theorem bX8_best_71 : Blk cX8_best 8 (some .int) false 71 [(.iinc 3 1, 3), (.goto 10, 3)] = true := by decide +kernel
theorem bX8_best_77 : Blk cX8_best 8 (some .int) false 77 [(.iload 1, 1), (.ireturn, 1)] = true := by decide +kernel
theorem bX8_isAhead_0 : Blk cX8_isAhead 8 (some .boolean) false 0 [(.aload 0, 1), (.iload 1, 1)] = true := by decide +kernel
theorem bX8_isAhead_5 : Blk cX8_isAhead 8 (some .boolean) false 5 [(.aload 0, 1), (.iload 2, 1)] = true := by decide +kernel
theorem bX8_isAhead_10 : Blk cX8_isAhead 8 (some .boolean) false 10 [(.if_icmp .eq 32, 3), (.aload 0, 1), (.iload 1, 1)] = true := by decide +kernel
theorem bX8_isAhead_18 : Blk cX8_isAhead 8 (some .boolean) false 18 [(.aload 0, 1), (.iload 2, 1)] = true := by decide +kernel
theorem bX8_isAhead_23 : Blk cX8_isAhead 8 (some .boolean) false 23 [(.if_icmp .ge 30, 3), (.iconst 1, 1), (.goto 31, 3)] = true := by decide +kernel
theorem bX8_isAhead_30 : Blk cX8_isAhead 8 (some .boolean) false 30 [(.iconst 0, 1)] = true := by decide +kernel
theorem bX8_isAhead_31 : Blk cX8_isAhead 8 (some .boolean) false 31 [(.freturn, 1)] = true := by decide +kernel
theorem bX8_isAhead_32 : Blk cX8_isAhead 8 (some .boolean) false 32 [(.iload 1, 1)] = true := by decide +kernel
theorem bX8_isAhead_36 : Blk cX8_isAhead 8 (some .boolean) false 36 [(.iload 2, 1)] = true := by decide +kernel
theorem bX8_isAhead_40 : Blk cX8_isAhead 8 (some .boolean) false 40 [(.if_icmp .eq 60, 3), (.iload 1, 1)] = true := by decide +kernel
theorem bX8_isAhead_47 : Blk cX8_isAhead 8 (some .boolean) false 47 [(.iload 2, 1)] = true := by decide +kernel
theorem bX8_isAhead_51 : Blk cX8_isAhead 8 (some .boolean) false 51 [(.if_icmp .ge 58, 3), (.iconst 1, 1), (.goto 59, 3)] = true := by decide +kernel
theorem bX8_isAhead_58 : Blk cX8_isAhead 8 (some .boolean) false 58 [(.iconst 0, 1)] = true := by decide +kernel
theorem bX8_isAhead_59 : Blk cX8_isAhead 8 (some .boolean) false 59 [(.freturn, 1)] = true := by decide +kernel
theorem bX8_isAhead_60 : Blk cX8_isAhead 8 (some .boolean) false 60 [(.iload 1, 1), (.iload 2, 1), (.ixor, 1), (.istore 3, 1), (.iload 1, 1), (.iload 3, 1), (.iand, 1), (.iload 3, 1), (.ineg, 1), (.iand, 1), (.ifCond .eq 77, 3), (.iconst 1, 1), (.goto 78, 3)] = true := by decide +kernel
theorem bX8_isAhead_77 : Blk cX8_isAhead 8 (some .boolean) false 77 [(.iconst 0, 1)] = true := by decide +kernel
theorem bX8_isAhead_78 : Blk cX8_isAhead 8 (some .boolean) false 78 [(.freturn, 1)] = true := by decide +kernel
theorem bX8_doneSet_0 : Blk cX8_doneSet 8 (some .int) false 0 [(.iconst 0, 1), (.istore 2, 1), (.iconst 0, 1), (.istore 3, 1)] = true := by decide +kernel
theorem bX8_doneSet_4 : Blk cX8_doneSet 8 (some .int) false 4 [(.iload 3, 1), (.iload 1, 1), (.if_icmp .ge 26, 3), (.iload 2, 1), (.iconst 1, 1), (.aload 0, 1), (.getstatic 563, 3), (.iload 3, 1), (.iaload, 1), (.ishl, 1), (.ior, 1), (.istore 2, 1), (.iinc 3 1, 3), (.goto 4, 3)] = true := by decide +kernel
theorem bX8_doneSet_26 : Blk cX8_doneSet 8 (some .int) false 26 [(.iload 2, 1), (.ireturn, 1)] = true := by decide +kernel
theorem bX8_play_0 : Blk cX8_play 8 (some .int) false 0 [(.iload 1, 1), (.ifCond .lt 28, 3), (.iload 1, 1), (.aload 0, 1), (.getfield 550, 3), (.if_icmp .ge 28, 3), (.aload 0, 1), (.aload 0, 1), (.getfield 562, 3)] = true := by decide +kernel
theorem bX8_play_20 : Blk cX8_play 8 (some .int) false 20 [(.iload 1, 1), (.ishr, 1), (.iconst 1, 1), (.iand, 1), (.iconst 1, 1), (.if_icmp .ne 30, 3)] = true := by decide +kernel
theorem bX8_play_28 : Blk cX8_play 8 (some .int) false 28 [(.iconst (-1), 1), (.ireturn, 1)] = true := by decide +kernel
theorem bX8_play_30 : Blk cX8_play 8 (some .int) false 30 [(.aload 0, 1), (.aload 0, 1), (.aload 0, 1), (.getfield 562, 3)] = true := by decide +kernel
theorem bX8_play_42 : Blk cX8_play 8 (some .int) false 42 [(.aload 0, 1), (.getstatic 556, 3), (.iload 1, 1), (.iaload, 1), (.iadd, 1), (.aload 0, 1), (.getfield 549, 3), (.if_icmp .le 59, 3), (.iconst (-2), 2), (.ireturn, 1)] = true := by decide +kernel
theorem bX8_play_59 : Blk cX8_play 8 (some .int) false 59 [(.aload 0, 1), (.getstatic 563, 3), (.aload 0, 1), (.getfield 562, 3), (.iload 1, 1), (.iastore, 1), (.aload 0, 1), (.dup, 1), (.getfield 562, 3), (.iconst 1, 1), (.iadd, 1), (.putfield 562, 3), (.aload 0, 1), (.getfield 562, 3), (.ireturn, 1)] = true := by decide +kernel
theorem bX8_undo_0 : Blk cX8_undo 8 (some .int) false 0 [(.aload 0, 1), (.getfield 562, 3), (.ifCond .ne 9, 3), (.iconst (-1), 1), (.ireturn, 1)] = true := by decide +kernel
theorem bX8_undo_9 : Blk cX8_undo 8 (some .int) false 9 [(.aload 0, 1), (.dup, 1), (.getfield 562, 3), (.iconst 1, 1), (.isub, 1), (.putfield 562, 3), (.aload 0, 1), (.getstatic 563, 3), (.aload 0, 1), (.getfield 562, 3), (.iaload, 1), (.ireturn, 1)] = true := by decide +kernel
theorem bX8_done_0 : Blk cX8_done 8 (some .int) false 0 [(.iload 1, 1), (.ifCond .lt 21, 3), (.iload 1, 1), (.aload 0, 1), (.getfield 562, 3), (.if_icmp .ge 21, 3), (.aload 0, 1), (.getstatic 563, 3), (.iload 1, 1), (.iaload, 1), (.goto 22, 3)] = true := by decide +kernel
theorem bX8_done_21 : Blk cX8_done 8 (some .int) false 21 [(.iconst (-1), 1)] = true := by decide +kernel
theorem bX8_done_22 : Blk cX8_done 8 (some .int) false 22 [(.ireturn, 1)] = true := by decide +kernel
theorem bX8_marks_0 : Blk cX8_marks 8 (some .int) false 0 [(.aload 0, 1), (.iconst 0, 1)] = true := by decide +kernel
theorem bX8_marks_5 : Blk cX8_marks 8 (some .int) false 5 [(.istore 1, 1), (.iload 1, 1), (.aload 0, 1), (.aload 0, 1), (.aload 0, 1), (.getfield 562, 3)] = true := by decide +kernel
theorem bX8_marks_19 : Blk cX8_marks 8 (some .int) false 19 [(.isub, 1), (.istore 2, 1), (.iload 1, 1), (.aload 0, 1), (.aload 0, 1)] = true := by decide +kernel
theorem bX8_marks_30 : Blk cX8_marks 8 (some .int) false 30 [(.isub, 1), (.istore 3, 1), (.iload 3, 1), (.ifCond .ne 47, 3), (.iload 2, 1), (.ifCond .lt 45, 3), (.iconst 100, 2), (.goto 46, 3)] = true := by decide +kernel
theorem bX8_marks_45 : Blk cX8_marks 8 (some .int) false 45 [(.iconst 0, 1)] = true := by decide +kernel
theorem bX8_marks_46 : Blk cX8_marks 8 (some .int) false 46 [(.ireturn, 1)] = true := by decide +kernel
theorem bX8_marks_47 : Blk cX8_marks 8 (some .int) false 47 [(.iload 2, 1), (.ifCond .gt 53, 3), (.iconst 0, 1), (.ireturn, 1)] = true := by decide +kernel
theorem bX8_marks_53 : Blk cX8_marks 8 (some .int) false 53 [(.jsr 100, 3), (.iload 2, 1), (.i2l, 1), (.lmul, 1), (.iload 3, 1), (.i2l, 1), (.ldiv, 1), (.lstore 4, 2), (.lload 4, 2), (.jsr 100, 3), (.lcmp, 1), (.ifCond .le 78, 3), (.iconst 100, 2), (.goto 81, 3)] = true := by decide +kernel
theorem bX8_marks_78 : Blk cX8_marks 8 (some .int) false 78 [(.lload 4, 2), (.l2i, 1)] = true := by decide +kernel
theorem bX8_marks_81 : Blk cX8_marks 8 (some .int) false 81 [(.ireturn, 1)] = true := by decide +kernel
theorem bX8_foretold_0 : Blk cX8_foretold 8 (some .int) false 0 [(.iconst (-1), 1), (.istore 3, 1), (.iconst 8, 2), (.aload 0, 1), (.getfield 529, 3), (.imul, 1), (.istore 4, 2)] = true := by decide +kernel
theorem bX8_foretold_11 : Blk cX8_foretold 8 (some .int) false 11 [(.iload 4, 2), (.iconst 8, 2), (.aload 0, 1), (.getfield 529, 3), (.imul, 1), (.aload 0, 1), (.getstatic 531, 3), (.aload 0, 1), (.getfield 529, 3), (.iaload, 1), (.iadd, 1), (.if_icmp .ge 73, 3), (.aload 0, 1), (.getstatic 532, 3), (.iload 4, 2), (.caload, 1), (.ifCond .ne 67, 3), (.iload 3, 1), (.iconst (-1), 1), (.if_icmp .eq 64, 3), (.aload 0, 1), (.getstatic 533, 3), (.iload 4, 2), (.iaload, 1), (.aload 0, 1), (.getstatic 533, 3), (.iload 3, 1), (.iaload, 1), (.if_icmp .le 67, 3)] = true := by decide +kernel
theorem bX8_foretold_64 : Blk cX8_foretold 8 (some .int) false 64 [(.iload 4, 2), (.istore 3, 1)] = true := by decide +kernel
theorem bX8_foretold_67 : Blk cX8_foretold 8 (some .int) false 67 [(.iinc 4 1, 3), (.goto 11, 3)] = true := by decide +kernel
theorem bX8_foretold_73 : Blk cX8_foretold 8 (some .int) false 73 [(.aload 0, 1), (.getfield 549, 3), (.aload 0, 1), (.iload 2, 1)] = true := by decide +kernel
theorem bX8_foretold_82 : Blk cX8_foretold 8 (some .int) false 82 [(.isub, 1), (.istore 4, 2), (.iload 1, 1), (.iconst 3, 1), (.if_icmp .ne 98, 3), (.aload 0, 1), (.iload 2, 1)] = true := by decide +kernel
theorem bX8_foretold_95 : Blk cX8_foretold 8 (some .int) false 95 [(.goto 99, 3)] = true := by decide +kernel
theorem bX8_foretold_98 : Blk cX8_foretold 8 (some .int) false 98 [(.iconst 0, 1)] = true := by decide +kernel
theorem bX8_foretold_99 : Blk cX8_foretold 8 (some .int) false 99 [(.istore 5, 2), (.iconst (-1), 1), (.istore 6, 2), (.iconst 0, 1), (.istore 7, 2), (.iconst 0, 1), (.istore 8, 2)] = true := by decide +kernel
theorem bX8_foretold_110 : Blk cX8_foretold 8 (some .int) false 110 [(.iload 8, 2), (.aload 0, 1), (.getfield 550, 3), (.if_icmp .ge 313, 3), (.iload 2, 1), (.iload 8, 2), (.ishr, 1), (.iconst 1, 1), (.iand, 1), (.iconst 1, 1), (.if_icmp .eq 307, 3), (.aload 0, 1), (.getstatic 556, 3), (.iload 8, 2), (.iaload, 1), (.iload 4, 2), (.if_icmp .le 144, 3), (.goto 307, 3)] = true := by decide +kernel
theorem bX8_foretold_144 : Blk cX8_foretold 8 (some .int) false 144 [(.iload 1, 1), (.iconst 2, 1), (.if_icmp .ne 159, 3), (.aload 0, 1), (.getstatic 551, 3), (.iload 8, 2), (.caload, 1), (.ifCond .eq 307, 3)] = true := by decide +kernel
theorem bX8_foretold_159 : Blk cX8_foretold 8 (some .int) false 159 [(.iload 1, 1), (.iconst 4, 1), (.if_icmp .ne 174, 3), (.aload 0, 1), (.getstatic 551, 3), (.iload 8, 2), (.caload, 1), (.ifCond .ne 307, 3)] = true := by decide +kernel
theorem bX8_foretold_174 : Blk cX8_foretold 8 (some .int) false 174 [(.iload 1, 1), (.iconst 5, 1), (.if_icmp .ne 213, 3), (.aload 0, 1), (.getstatic 551, 3), (.iload 8, 2), (.caload, 1), (.ifCond .eq 307, 3), (.iload 3, 1), (.iconst (-1), 1), (.if_icmp .eq 307, 3), (.aload 0, 1), (.getstatic 552, 3), (.iload 8, 2), (.iaload, 1), (.aload 0, 1), (.getstatic 534, 3), (.iload 3, 1), (.iaload, 1), (.if_icmp .eq 213, 3), (.goto 307, 3)] = true := by decide +kernel
theorem bX8_foretold_213 : Blk cX8_foretold 8 (some .int) false 213 [(.iload 1, 1), (.iconst 1, 1), (.if_icmp .ne 229, 3), (.aload 0, 1), (.getstatic 556, 3), (.iload 8, 2), (.iaload, 1), (.ineg, 1), (.goto 281, 3)] = true := by decide +kernel
theorem bX8_foretold_229 : Blk cX8_foretold 8 (some .int) false 229 [(.iload 1, 1), (.iconst 2, 1), (.if_icmp .ne 244, 3), (.aload 0, 1), (.getstatic 553, 3), (.iload 8, 2), (.iaload, 1), (.goto 281, 3)] = true := by decide +kernel
theorem bX8_foretold_244 : Blk cX8_foretold 8 (some .int) false 244 [(.iload 1, 1), (.iconst 3, 1), (.if_icmp .ne 265, 3), (.iload 5, 2), (.aload 0, 1), (.iload 2, 1), (.iconst 1, 1), (.iload 8, 2), (.ishl, 1), (.ior, 1)] = true := by decide +kernel
theorem bX8_foretold_261 : Blk cX8_foretold 8 (some .int) false 261 [(.isub, 1), (.goto 281, 3)] = true := by decide +kernel
theorem bX8_foretold_265 : Blk cX8_foretold 8 (some .int) false 265 [(.iload 1, 1), (.iconst 4, 1), (.if_icmp .ne 280, 3), (.aload 0, 1), (.getstatic 555, 3), (.iload 8, 2), (.iaload, 1), (.goto 281, 3)] = true := by decide +kernel
theorem bX8_foretold_280 : Blk cX8_foretold 8 (some .int) false 280 [(.iconst 0, 1)] = true := by decide +kernel
theorem bX8_foretold_281 : Blk cX8_foretold 8 (some .int) false 281 [(.istore 9, 2), (.iload 6, 2), (.iconst (-1), 1), (.if_icmp .eq 299, 3), (.iload 9, 2), (.iload 7, 2), (.if_icmp .gt 299, 3), (.goto 307, 3)] = true := by decide +kernel
theorem bX8_foretold_299 : Blk cX8_foretold 8 (some .int) false 299 [(.iload 8, 2), (.istore 6, 2), (.iload 9, 2), (.istore 7, 2)] = true := by decide +kernel
theorem bX8_foretold_307 : Blk cX8_foretold 8 (some .int) false 307 [(.iinc 8 1, 3), (.goto 110, 3)] = true := by decide +kernel
theorem bX8_foretold_313 : Blk cX8_foretold 8 (some .int) false 313 [(.iload 6, 2), (.ireturn, 1)] = true := by decide +kernel
theorem bX8_foretells_0 : Blk cX8_foretells 8 (some .int) false 0 [(.iload 1, 1), (.ifCond .lt 9, 3), (.iload 1, 1), (.iconst 5, 1), (.if_icmp .le 13, 3)] = true := by decide +kernel
theorem bX8_foretells_9 : Blk cX8_foretells 8 (some .int) false 9 [(.iconst (-1), 1), (.goto 26, 3)] = true := by decide +kernel
theorem bX8_foretells_13 : Blk cX8_foretells 8 (some .int) false 13 [(.aload 0, 1), (.iload 1, 1), (.aload 0, 1), (.aload 0, 1), (.getfield 562, 3)] = true := by decide +kernel
theorem bX8_foretells_26 : Blk cX8_foretells 8 (some .int) false 26 [(.ireturn, 1)] = true := by decide +kernel
theorem bX8_explained_0 : Blk cX8_explained 8 (some .int) false 0 [(.iload 1, 1), (.ifCond .lt 12, 3), (.iload 1, 1), (.aload 0, 1), (.getfield 562, 3), (.if_icmp .lt 14, 3)] = true := by decide +kernel
theorem bX8_explained_12 : Blk cX8_explained 8 (some .int) false 12 [(.iconst (-1), 1), (.ireturn, 1)] = true := by decide +kernel
theorem bX8_explained_14 : Blk cX8_explained 8 (some .int) false 14 [(.iconst 0, 1), (.istore 2, 1), (.iconst 0, 1), (.istore 3, 1)] = true := by decide +kernel
theorem bX8_explained_18 : Blk cX8_explained 8 (some .int) false 18 [(.iload 3, 1), (.iconst 6, 2), (.if_icmp .ge 55, 3), (.aload 0, 1), (.iload 3, 1), (.aload 0, 1), (.iload 1, 1)] = true := by decide +kernel
theorem bX8_explained_34 : Blk cX8_explained 8 (some .int) false 34 [(.aload 0, 1), (.getstatic 563, 3), (.iload 1, 1), (.iaload, 1), (.if_icmp .ne 49, 3), (.iload 2, 1), (.iconst 1, 1), (.iload 3, 1), (.ishl, 1), (.ior, 1), (.istore 2, 1)] = true := by decide +kernel
theorem bX8_explained_49 : Blk cX8_explained 8 (some .int) false 49 [(.iinc 3 1, 3), (.goto 18, 3)] = true := by decide +kernel
theorem bX8_explained_55 : Blk cX8_explained 8 (some .int) false 55 [(.iload 2, 1), (.ireturn, 1)] = true := by decide +kernel
theorem bX8_ideas_0 : Blk cX8_ideas 8 (some .int) false 0 [(.iconst 0, 1), (.istore 1, 1)] = true := by decide +kernel
theorem bX8_ideas_2 : Blk cX8_ideas 8 (some .int) false 2 [(.iload 1, 1), (.aload 0, 1), (.getfield 562, 3), (.if_icmp .ge 27, 3), (.aload 0, 1), (.getstatic 564, 3), (.iload 1, 1), (.aload 0, 1), (.iload 1, 1)] = true := by decide +kernel
theorem bX8_ideas_20 : Blk cX8_ideas 8 (some .int) false 20 [(.iastore, 1), (.iinc 1 1, 3), (.goto 2, 3)] = true := by decide +kernel
theorem bX8_ideas_27 : Blk cX8_ideas 8 (some .int) false 27 [(.iconst 63, 2), (.istore 1, 1), (.iconst 0, 1), (.istore 2, 1)] = true := by decide +kernel
theorem bX8_ideas_32 : Blk cX8_ideas 8 (some .int) false 32 [(.iload 2, 1), (.iconst 64, 2), (.if_icmp .ge 135, 3), (.iconst 1, 1), (.istore 3, 1), (.iconst 0, 1), (.istore 4, 2)] = true := by decide +kernel
theorem bX8_ideas_43 : Blk cX8_ideas 8 (some .int) false 43 [(.iload 4, 2), (.aload 0, 1), (.getfield 562, 3), (.if_icmp .ge 82, 3), (.aload 0, 1), (.getstatic 564, 3), (.iload 4, 2), (.iaload, 1), (.ifCond .eq 76, 3), (.aload 0, 1), (.getstatic 564, 3), (.iload 4, 2), (.iaload, 1), (.iload 2, 1), (.iand, 1), (.ifCond .ne 76, 3), (.iconst 0, 1), (.istore 3, 1)] = true := by decide +kernel
theorem bX8_ideas_76 : Blk cX8_ideas 8 (some .int) false 76 [(.iinc 4 1, 3), (.goto 43, 3)] = true := by decide +kernel
theorem bX8_ideas_82 : Blk cX8_ideas 8 (some .int) false 82 [(.iload 3, 1), (.ifCond .ne 89, 3), (.goto 129, 3)] = true := by decide +kernel
theorem bX8_ideas_89 : Blk cX8_ideas 8 (some .int) false 89 [(.iload 2, 1), (.iload 1, 1), (.ixor, 1), (.istore 4, 2), (.iload 2, 1)] = true := by decide +kernel
theorem bX8_ideas_98 : Blk cX8_ideas 8 (some .int) false 98 [(.iload 1, 1)] = true := by decide +kernel
theorem bX8_ideas_102 : Blk cX8_ideas 8 (some .int) false 102 [(.if_icmp .lt 127, 3), (.iload 2, 1)] = true := by decide +kernel
theorem bX8_ideas_109 : Blk cX8_ideas 8 (some .int) false 109 [(.iload 1, 1)] = true := by decide +kernel
theorem bX8_ideas_113 : Blk cX8_ideas 8 (some .int) false 113 [(.if_icmp .ne 129, 3), (.iload 2, 1), (.iload 4, 2), (.iand, 1), (.iload 4, 2), (.ineg, 1), (.iand, 1), (.ifCond .eq 129, 3)] = true := by decide +kernel
theorem bX8_ideas_127 : Blk cX8_ideas 8 (some .int) false 127 [(.iload 2, 1), (.istore 1, 1)] = true := by decide +kernel
theorem bX8_ideas_129 : Blk cX8_ideas 8 (some .int) false 129 [(.iinc 2 1, 3), (.goto 32, 3)] = true := by decide +kernel
theorem bX8_ideas_135 : Blk cX8_ideas 8 (some .int) false 135 [(.iload 1, 1), (.ireturn, 1)] = true := by decide +kernel
theorem bX8_hint_0 : Blk cX8_hint 8 (some .int) false 0 [(.aload 0, 1), (.aload 0, 1), (.getfield 562, 3)] = true := by decide +kernel
theorem bX8_hint_8 : Blk cX8_hint 8 (some .int) false 8 [(.istore 1, 1), (.aload 0, 1)] = true := by decide +kernel
theorem bX8_hint_13 : Blk cX8_hint 8 (some .int) false 13 [(.iload 1, 1), (.iconst (-1), 1), (.ixor, 1), (.iand, 1), (.istore 2, 1), (.aload 0, 1), (.iload 1, 1)] = true := by decide +kernel
theorem bX8_hint_23 : Blk cX8_hint 8 (some .int) false 23 [(.istore 3, 1), (.iconst (-1), 1), (.istore 4, 2), (.iconst 0, 1), (.istore 5, 2), (.iconst 0, 1), (.istore 6, 2)] = true := by decide +kernel
theorem bX8_hint_33 : Blk cX8_hint 8 (some .int) false 33 [(.iload 6, 2), (.aload 0, 1), (.getfield 550, 3), (.if_icmp .ge 98, 3), (.iload 2, 1), (.iload 6, 2), (.ishr, 1), (.iconst 1, 1), (.iand, 1), (.ifCond .ne 54, 3), (.goto 92, 3)] = true := by decide +kernel
theorem bX8_hint_54 : Blk cX8_hint 8 (some .int) false 54 [(.iload 3, 1), (.aload 0, 1), (.iload 1, 1), (.iconst 1, 1), (.iload 6, 2), (.ishl, 1), (.ior, 1)] = true := by decide +kernel
theorem bX8_hint_65 : Blk cX8_hint 8 (some .int) false 65 [(.isub, 1), (.istore 7, 2), (.iload 4, 2), (.iconst (-1), 1), (.if_icmp .eq 84, 3), (.iload 7, 2), (.iload 5, 2), (.if_icmp .gt 84, 3), (.goto 92, 3)] = true := by decide +kernel
theorem bX8_hint_84 : Blk cX8_hint 8 (some .int) false 84 [(.iload 6, 2), (.istore 4, 2), (.iload 7, 2), (.istore 5, 2)] = true := by decide +kernel
theorem bX8_hint_92 : Blk cX8_hint 8 (some .int) false 92 [(.iinc 6 1, 3), (.goto 33, 3)] = true := by decide +kernel
theorem bX8_hint_98 : Blk cX8_hint 8 (some .int) false 98 [(.iload 4, 2), (.ireturn, 1)] = true := by decide +kernel
theorem bX8_saved_0 : Blk cX8_saved 8 (some .int) false 0 [(.iload 1, 1), (.ifCond .lt 29, 3), (.iload 1, 1), (.aload 0, 1), (.getfield 562, 3), (.if_icmp .ge 29, 3), (.iload 2, 1), (.ifCond .lt 29, 3), (.iload 2, 1), (.aload 0, 1), (.getstatic 531, 3), (.aload 0, 1), (.getfield 529, 3), (.iaload, 1), (.if_icmp .lt 33, 3)] = true := by decide +kernel
theorem bX8_saved_29 : Blk cX8_saved 8 (some .int) false 29 [(.iconst (-1000000), 3), (.ireturn, 1)] = true := by decide +kernel
theorem bX8_saved_33 : Blk cX8_saved 8 (some .int) false 33 [(.aload 0, 1), (.getstatic 533, 3), (.iconst 8, 2), (.aload 0, 1), (.getfield 529, 3), (.imul, 1), (.iload 2, 1), (.iadd, 1), (.iaload, 1), (.aload 0, 1), (.iconst 8, 2), (.aload 0, 1), (.getfield 529, 3), (.imul, 1), (.iload 2, 1), (.iadd, 1), (.aload 0, 1), (.iload 1, 1)] = true := by decide +kernel
theorem bX8_saved_65 : Blk cX8_saved 8 (some .int) false 65 [(.aload 0, 1), (.iconst 8, 2), (.aload 0, 1), (.getfield 529, 3), (.imul, 1), (.iload 2, 1), (.iadd, 1), (.aload 0, 1), (.iload 1, 1), (.iconst 1, 1), (.iadd, 1)] = true := by decide +kernel
theorem bX8_saved_85 : Blk cX8_saved 8 (some .int) false 85 [(.isub, 1), (.imul, 1), (.ireturn, 1)] = true := by decide +kernel
theorem bX8_count_0 : Blk cX8_count 8 (some .int) false 0 [(.iload 1, 1)] = true := by decide +kernel
theorem bX8_count_52 : Blk cX8_count 8 (some .int) false 52 [(.aload 0, 1), (.getfield 544, 3), (.ireturn, 1)] = true := by decide +kernel
theorem bX8_count_57 : Blk cX8_count 8 (some .int) false 57 [(.aload 0, 1), (.getstatic 531, 3), (.aload 0, 1), (.getfield 529, 3), (.iaload, 1), (.ireturn, 1)] = true := by decide +kernel
theorem bX8_count_67 : Blk cX8_count 8 (some .int) false 67 [(.aload 0, 1), (.getfield 550, 3), (.ireturn, 1)] = true := by decide +kernel
theorem bX8_count_72 : Blk cX8_count 8 (some .int) false 72 [(.aload 0, 1), (.getfield 562, 3), (.ireturn, 1)] = true := by decide +kernel
theorem bX8_count_77 : Blk cX8_count 8 (some .int) false 77 [(.aload 0, 1), (.aload 0, 1), (.aload 0, 1), (.getfield 562, 3)] = true := by decide +kernel
theorem bX8_count_89 : Blk cX8_count 8 (some .int) false 89 [(.ireturn, 1)] = true := by decide +kernel
theorem bX8_count_90 : Blk cX8_count 8 (some .int) false 90 [(.aload 0, 1), (.getfield 548, 3), (.ireturn, 1)] = true := by decide +kernel
theorem bX8_count_95 : Blk cX8_count 8 (some .int) false 95 [(.aload 0, 1), (.getfield 549, 3), (.ireturn, 1)] = true := by decide +kernel
theorem bX8_count_100 : Blk cX8_count 8 (some .int) false 100 [(.iconst 0, 1), (.istore 2, 1), (.iconst 0, 1), (.istore 3, 1)] = true := by decide +kernel
theorem bX8_count_104 : Blk cX8_count 8 (some .int) false 104 [(.iload 3, 1), (.iconst 1, 1), (.aload 0, 1), (.getfield 550, 3), (.ishl, 1), (.if_icmp .ge 135, 3), (.aload 0, 1), (.iload 3, 1)] = true := by decide +kernel
theorem bX8_count_119 : Blk cX8_count 8 (some .int) false 119 [(.aload 0, 1), (.getfield 549, 3), (.if_icmp .gt 129, 3), (.iinc 2 1, 3)] = true := by decide +kernel
theorem bX8_count_129 : Blk cX8_count 8 (some .int) false 129 [(.iinc 3 1, 3), (.goto 104, 3)] = true := by decide +kernel
theorem bX8_count_135 : Blk cX8_count 8 (some .int) false 135 [(.iload 2, 1), (.ireturn, 1)] = true := by decide +kernel
theorem bX8_count_137 : Blk cX8_count 8 (some .int) false 137 [(.aload 0, 1), (.getfield 514, 3), (.ireturn, 1)] = true := by decide +kernel
theorem bX8_count_142 : Blk cX8_count 8 (some .int) false 142 [(.iconst (-1), 1), (.ireturn, 1)] = true := by decide +kernel
