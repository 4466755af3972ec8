theorem bX0_init_0 : Blk cX0_init 0 none true 0 [(.aload 0, 1)] = true := by decide +kernel
theorem bX0_init_4 : Blk cX0_init 0 none true 4 [(.aload 0, 1), (.iconst 0, 1), (.checkcast 0, 3), (.aload 0, 1), (.iconst 0, 1), (.putfield 1, 3), (.aload 0, 1), (.iconst 0, 1), (.putfield 2, 3), (.aload 0, 1), (.iconst 0, 1), (.putfield 3, 3), (.aload 0, 1), (.iconst 0, 1), (.putfield 4, 3), (.aload 0, 1), (.iconst 4, 1)] = true := by decide +kernel
theorem bX0_init_33 : Blk cX0_init 0 none true 33 [(.putstatic 5, 3), (.aload 0, 1), (.iconst 4, 1)] = true := by decide +kernel
theorem bX0_init_40 : Blk cX0_init 0 none true 40 [(.putstatic 6, 3), (.aload 0, 1), (.iconst 4, 1)] = true := by decide +kernel
theorem bX0_init_47 : Blk cX0_init 0 none true 47 [(.putstatic 7, 3), (.aload 0, 1), (.iconst (-1), 1), (.putfield 8, 3), (.aload 0, 1), (.iconst 0, 1), (.putfield 9, 3), (.aload 0, 1), (.iconst 0, 1), (.putfield 10, 3), (.aload 0, 1), (.iconst (-1), 1), (.putfield 11, 3), (.return_, 1)] = true := by decide +kernel
theorem bX0_clear_0 : Blk cX0_clear 0 none false 0 [(.aload 0, 1), (.iload 1, 1), (.checkcast 0, 3), (.aload 0, 1), (.iconst 0, 1), (.putfield 3, 3), (.aload 0, 1), (.iconst 0, 1), (.putfield 4, 3), (.aload 0, 1), (.iconst (-1), 1), (.putfield 8, 3), (.aload 0, 1), (.iconst (-1), 1), (.putfield 11, 3), (.return_, 1)] = true := by decide +kernel
theorem bX0_condOn_0 : Blk cX0_condOn 0 (some .int) false 0 [(.iconst 0, 1), (.istore 2, 1)] = true := by decide +kernel
theorem bX0_condOn_2 : Blk cX0_condOn 0 (some .int) false 2 [(.iload 2, 1), (.aload 0, 1), (.getfield 4, 3), (.if_icmp .ge 28, 3), (.aload 0, 1), (.getstatic 5, 3), (.iload 2, 1), (.iaload, 1), (.iload 1, 1), (.if_icmp .ne 22, 3), (.iload 2, 1), (.ireturn, 1)] = true := by decide +kernel
theorem bX0_condOn_22 : Blk cX0_condOn 0 (some .int) false 22 [(.iinc 2 1, 3), (.goto 2, 3)] = true := by decide +kernel
theorem bX0_condOn_28 : Blk cX0_condOn 0 (some .int) false 28 [(.iconst (-1), 1), (.ireturn, 1)] = true := by decide +kernel
theorem bX0_allConds_0 : Blk cX0_allConds 0 (some .int) false 0 [(.iconst 1, 1), (.aload 0, 1), (.getfield 4, 3), (.ishl, 1), (.iconst 1, 1), (.isub, 1), (.ireturn, 1)] = true := by decide +kernel
theorem bX0_condsUsedBy_0 : Blk cX0_condsUsedBy 0 (some .int) false 0 [(.iconst 0, 1), (.istore 2, 1), (.iconst 0, 1), (.istore 3, 1)] = true := by decide +kernel
theorem bX0_condsUsedBy_4 : Blk cX0_condsUsedBy 0 (some .int) false 4 [(.iload 3, 1), (.aload 1, 1), (.getfield 66, 3), (.if_icmp .ge 57, 3), (.aload 0, 1), (.aload 1, 1), (.getstatic 65, 3), (.iload 3, 1), (.iaload, 1)] = true := by decide +kernel
theorem bX0_condsUsedBy_22 : Blk cX0_condsUsedBy 0 (some .int) false 22 [(.istore 4, 2), (.iload 4, 2), (.iconst (-1), 1), (.if_icmp .ne 32, 3), (.iload 2, 1), (.ireturn, 1)] = true := by decide +kernel
theorem bX0_condsUsedBy_32 : Blk cX0_condsUsedBy 0 (some .int) false 32 [(.iload 2, 1), (.iconst 1, 1), (.iload 4, 2), (.ishl, 1), (.ior, 1), (.istore 2, 1), (.aload 0, 1), (.getstatic 6, 3), (.iload 4, 2), (.caload, 1), (.ifCond .eq 51, 3), (.iload 2, 1), (.ireturn, 1)] = true := by decide +kernel
theorem bX0_condsUsedBy_51 : Blk cX0_condsUsedBy 0 (some .int) false 51 [(.iinc 3 1, 3), (.goto 4, 3)] = true := by decide +kernel
theorem bX0_condsUsedBy_57 : Blk cX0_condsUsedBy 0 (some .int) false 57 [(.iload 2, 1), (.ireturn, 1)] = true := by decide +kernel
theorem bX0_comesSortedBy_0 : Blk cX0_comesSortedBy 0 (some .boolean) false 0 [(.iconst 0, 1), (.istore 2, 1)] = true := by decide +kernel
theorem bX0_comesSortedBy_2 : Blk cX0_comesSortedBy 0 (some .boolean) false 2 [(.iload 2, 1), (.aload 1, 1), (.getfield 66, 3), (.if_icmp .ge 58, 3), (.aload 1, 1), (.getstatic 65, 3), (.iload 2, 1), (.iaload, 1), (.aload 0, 1), (.getfield 11, 3), (.if_icmp .ne 25, 3), (.iconst 1, 1), (.freturn, 1)] = true := by decide +kernel
theorem bX0_comesSortedBy_25 : Blk cX0_comesSortedBy 0 (some .boolean) false 25 [(.aload 0, 1), (.aload 1, 1), (.getstatic 65, 3), (.iload 2, 1), (.iaload, 1)] = true := by decide +kernel
theorem bX0_comesSortedBy_35 : Blk cX0_comesSortedBy 0 (some .boolean) false 35 [(.istore 3, 1), (.iload 3, 1), (.iconst (-1), 1), (.if_icmp .eq 50, 3), (.aload 0, 1), (.getstatic 6, 3), (.iload 3, 1), (.caload, 1), (.ifCond .eq 52, 3)] = true := by decide +kernel
theorem bX0_comesSortedBy_50 : Blk cX0_comesSortedBy 0 (some .boolean) false 50 [(.iconst 0, 1), (.freturn, 1)] = true := by decide +kernel
theorem bX0_comesSortedBy_52 : Blk cX0_comesSortedBy 0 (some .boolean) false 52 [(.iinc 2 1, 3), (.goto 2, 3)] = true := by decide +kernel
theorem bX0_comesSortedBy_58 : Blk cX0_comesSortedBy 0 (some .boolean) false 58 [(.iconst 0, 1), (.freturn, 1)] = true := by decide +kernel
theorem bX0_holds_0 : Blk cX0_holds 0 (some .boolean) false 0 [(.iconst 0, 1), (.istore 4, 2)] = true := by decide +kernel
theorem bX0_holds_3 : Blk cX0_holds 0 (some .boolean) false 3 [(.iload 4, 2), (.aload 0, 1), (.getfield 4, 3), (.if_icmp .ge 80, 3), (.iload 4, 2), (.iload 3, 1)] = true := by decide +kernel
theorem bX0_holds_18 : Blk cX0_holds 0 (some .boolean) false 18 [(.ifCond .eq 74, 3), (.aload 1, 1), (.iload 2, 1), (.aload 0, 1), (.getstatic 5, 3), (.iload 4, 2), (.iaload, 1)] = true := by decide +kernel
theorem bX0_holds_33 : Blk cX0_holds 0 (some .boolean) false 33 [(.istore 5, 2), (.aload 0, 1), (.getstatic 6, 3), (.iload 4, 2), (.caload, 1), (.ifCond .eq 60, 3), (.iload 5, 2), (.aload 0, 1), (.getstatic 7, 3), (.iload 4, 2), (.iaload, 1), (.if_icmp .lt 74, 3), (.goto 72, 3)] = true := by decide +kernel
theorem bX0_holds_60 : Blk cX0_holds 0 (some .boolean) false 60 [(.iload 5, 2), (.aload 0, 1), (.getstatic 7, 3), (.iload 4, 2), (.iaload, 1), (.if_icmp .eq 74, 3)] = true := by decide +kernel
theorem bX0_holds_72 : Blk cX0_holds 0 (some .boolean) false 72 [(.iconst 0, 1), (.freturn, 1)] = true := by decide +kernel
theorem bX0_holds_74 : Blk cX0_holds 0 (some .boolean) false 74 [(.iinc 4 1, 3), (.goto 3, 3)] = true := by decide +kernel
theorem bX0_holds_80 : Blk cX0_holds 0 (some .boolean) false 80 [(.iconst 1, 1), (.freturn, 1)] = true := by decide +kernel
theorem bX0_rowsFor_0 : Blk cX0_rowsFor 0 (some .int) false 0 [(.iconst 0, 1), (.istore 3, 1), (.iconst 0, 1), (.istore 4, 2)] = true := by decide +kernel
theorem bX0_rowsFor_5 : Blk cX0_rowsFor 0 (some .int) false 5 [(.iload 4, 2), (.aload 1, 1), (.getfield 257, 3), (.if_icmp .ge 34, 3), (.aload 0, 1), (.aload 1, 1), (.iload 4, 2), (.iload 2, 1)] = true := by decide +kernel
theorem bX0_rowsFor_22 : Blk cX0_rowsFor 0 (some .int) false 22 [(.ifCond .eq 28, 3), (.iinc 3 1, 3)] = true := by decide +kernel
theorem bX0_rowsFor_28 : Blk cX0_rowsFor 0 (some .int) false 28 [(.iinc 4 1, 3), (.goto 5, 3)] = true := by decide +kernel
theorem bX0_rowsFor_34 : Blk cX0_rowsFor 0 (some .int) false 34 [(.iload 3, 1), (.ireturn, 1)] = true := by decide +kernel
theorem bX1_init_0 : Blk cX1_init 1 none true 0 [(.aload 0, 1)] = true := by decide +kernel
theorem bX1_init_4 : Blk cX1_init 1 none true 4 [(.aload 0, 1), (.iconst (-1), 1), (.putfield 64, 3), (.aload 0, 1), (.iconst 3, 1)] = true := by decide +kernel
theorem bX1_init_13 : Blk cX1_init 1 none true 13 [(.putstatic 65, 3), (.aload 0, 1), (.iconst 0, 1), (.putfield 66, 3), (.aload 0, 1), (.iconst 0, 1), (.putfield 67, 3), (.aload 0, 1), (.iconst 0, 1), (.putfield 68, 3), (.return_, 1)] = true := by decide +kernel
theorem bX1_becomeIndex_0 : Blk cX1_becomeIndex 1 none false 0 [(.aload 0, 1), (.iload 1, 1), (.putfield 64, 3), (.aload 0, 1), (.getstatic 65, 3), (.iconst 0, 1), (.iload 2, 1), (.iastore, 1), (.aload 0, 1), (.getstatic 65, 3), (.iconst 1, 1), (.iload 3, 1), (.iastore, 1), (.aload 0, 1), (.getstatic 65, 3), (.iconst 2, 1), (.iload 4, 2), (.iastore, 1), (.aload 0, 1), (.iload 3, 1), (.iconst (-1), 1), (.if_icmp .ne 37, 3), (.iconst 1, 1), (.goto 48, 3)] = true := by decide +kernel
theorem bX1_becomeIndex_37 : Blk cX1_becomeIndex 1 none false 37 [(.iload 4, 2), (.iconst (-1), 1), (.if_icmp .ne 47, 3), (.iconst 2, 1), (.goto 48, 3)] = true := by decide +kernel
theorem bX1_becomeIndex_47 : Blk cX1_becomeIndex 1 none false 47 [(.iconst 3, 1)] = true := by decide +kernel
theorem bX1_becomeIndex_48 : Blk cX1_becomeIndex 1 none false 48 [(.putfield 66, 3), (.aload 0, 1), (.iload 5, 2), (.putfield 68, 3), (.return_, 1)] = true := by decide +kernel
theorem bX1_becomeRoom_0 : Blk cX1_becomeRoom 1 none false 0 [(.aload 0, 1), (.iload 1, 1), (.putfield 67, 3), (.aload 0, 1), (.iload 2, 1), (.putfield 68, 3), (.return_, 1)] = true := by decide +kernel
theorem bX1_isIndex_0 : Blk cX1_isIndex 1 (some .boolean) false 0 [(.aload 0, 1), (.getfield 64, 3), (.iconst (-1), 1), (.if_icmp .eq 12, 3), (.iconst 1, 1), (.goto 13, 3)] = true := by decide +kernel
theorem bX1_isIndex_12 : Blk cX1_isIndex 1 (some .boolean) false 12 [(.iconst 0, 1)] = true := by decide +kernel
theorem bX1_isIndex_13 : Blk cX1_isIndex 1 (some .boolean) false 13 [(.freturn, 1)] = true := by decide +kernel
theorem bX2_init_0 : Blk cX2_init 2 none true 0 [(.aload 0, 1)] = true := by decide +kernel
theorem bX2_init_4 : Blk cX2_init 2 none true 4 [(.aload 0, 1), (.iconst 4, 1)] = true := by decide +kernel
theorem bX2_init_8 : Blk cX2_init 2 none true 8 [(.putstatic 128, 3), (.aload 0, 1)] = true := by decide +kernel
theorem bX2_init_15 : Blk cX2_init 2 none true 15 [(.dup, 1)] = true := by decide +kernel
theorem bX2_init_19 : Blk cX2_init 2 none true 19 [(.putstatic 129, 3), (.aload 0, 1), (.iconst 8, 2)] = true := by decide +kernel
theorem bX2_init_28 : Blk cX2_init 2 none true 28 [(.putstatic 130, 3), (.aload 0, 1), (.iconst 0, 1), (.putfield 131, 3), (.aload 0, 1), (.iconst 0, 1), (.putfield 132, 3), (.aload 0, 1), (.iconst 0, 1), (.putfield 133, 3), (.aload 0, 1), (.iconst (-1), 1), (.putfield 134, 3), (.iconst 0, 1), (.istore 1, 1)] = true := by decide +kernel
theorem bX2_init_53 : Blk cX2_init 2 none true 53 [(.iload 1, 1), (.iconst 8, 2), (.if_icmp .ge 78, 3), (.aload 0, 1), (.getstatic 130, 3), (.iload 1, 1)] = true := by decide +kernel
theorem bX2_init_67 : Blk cX2_init 2 none true 67 [(.dup, 1)] = true := by decide +kernel
theorem bX2_init_71 : Blk cX2_init 2 none true 71 [(.aastore, 1), (.iinc 1 1, 3), (.goto 53, 3)] = true := by decide +kernel
theorem bX2_init_78 : Blk cX2_init 2 none true 78 [(.return_, 1)] = true := by decide +kernel
theorem bX2_swapDrafts_0 : Blk cX2_swapDrafts 2 (some (.array (.object RX0))) false 0 [(.aload 0, 1), (.getstatic 130, 3), (.astore 2, 1), (.aload 0, 1), (.aload 1, 1), (.putstatic 130, 3), (.aload 2, 1), (.areturn, 1)] = true := by decide +kernel
theorem bX2_parse_0 : Blk cX2_parse 2 none false 0 [(.aload 0, 1), (.getstatic 129, 3), (.aload 1, 1)] = true := by decide +kernel
theorem bX2_parse_8 : Blk cX2_parse 2 none false 8 [(.aload 0, 1), (.iconst 0, 1), (.putfield 131, 3), (.aload 0, 1), (.iconst 0, 1), (.putfield 133, 3), (.aload 0, 1), (.iconst (-1), 1), (.putfield 134, 3), (.aload 0, 1), (.iconst 0, 1), (.putfield 132, 3), (.iconst 0, 1), (.istore 2, 1)] = true := by decide +kernel
theorem bX2_parse_30 : Blk cX2_parse 2 none false 30 [(.iload 2, 1), (.iconst 8, 2), (.if_icmp .gt 76, 3), (.aload 0, 1), (.getstatic 129, 3), (.getstatic 384, 3), (.aload 0, 1), (.getfield 131, 3), (.iaload, 1), (.ifCond .eq 59, 3), (.aload 0, 1), (.iload 2, 1)] = true := by decide +kernel
theorem bX2_parse_56 : Blk cX2_parse 2 none false 56 [(.ifCond .ne 60, 3)] = true := by decide +kernel
theorem bX2_parse_59 : Blk cX2_parse 2 none false 59 [(.return_, 1)] = true := by decide +kernel
theorem bX2_parse_60 : Blk cX2_parse 2 none false 60 [(.aload 0, 1), (.dup, 1), (.getfield 132, 3), (.iconst 1, 1), (.iadd, 1), (.putfield 132, 3), (.iinc 2 1, 3), (.goto 30, 3)] = true := by decide +kernel
theorem bX2_parse_76 : Blk cX2_parse 2 none false 76 [(.return_, 1)] = true := by decide +kernel
theorem bX2_parseDeed_0 : Blk cX2_parseDeed 2 (some .boolean) false 0 [(.aload 0, 1), (.getstatic 129, 3), (.getstatic 384, 3), (.aload 0, 1), (.getfield 131, 3), (.iaload, 1), (.iconst 15, 2), (.if_icmp .ne 21, 3), (.iconst 1, 1), (.goto 22, 3)] = true := by decide +kernel
theorem bX2_parseDeed_21 : Blk cX2_parseDeed 2 (some .boolean) false 21 [(.iconst 0, 1)] = true := by decide +kernel
theorem bX2_parseDeed_22 : Blk cX2_parseDeed 2 (some .boolean) false 22 [(.istore 2, 1), (.iload 2, 1), (.ifCond .ne 50, 3), (.aload 0, 1), (.getstatic 129, 3), (.getstatic 384, 3), (.aload 0, 1), (.getfield 131, 3), (.iaload, 1), (.iconst 7, 2), (.if_icmp .eq 50, 3), (.aload 0, 1), (.iconst 1, 1)] = true := by decide +kernel
theorem bX2_parseDeed_49 : Blk cX2_parseDeed 2 (some .boolean) false 49 [(.freturn, 1)] = true := by decide +kernel
theorem bX2_parseDeed_50 : Blk cX2_parseDeed 2 (some .boolean) false 50 [(.iload 1, 1), (.iconst 8, 2), (.if_icmp .lt 62, 3), (.aload 0, 1), (.iconst 2, 1)] = true := by decide +kernel
theorem bX2_parseDeed_61 : Blk cX2_parseDeed 2 (some .boolean) false 61 [(.freturn, 1)] = true := by decide +kernel
theorem bX2_parseDeed_62 : Blk cX2_parseDeed 2 (some .boolean) false 62 [(.aload 0, 1), (.getstatic 130, 3), (.iload 1, 1), (.aaload, 1), (.iload 2, 1)] = true := by decide +kernel
theorem bX2_parseDeed_72 : Blk cX2_parseDeed 2 (some .boolean) false 72 [(.iload 2, 1), (.ifCond .eq 89, 3), (.aload 0, 1), (.aload 0, 1), (.getstatic 130, 3), (.iload 1, 1), (.aaload, 1)] = true := by decide +kernel
theorem bX2_parseDeed_86 : Blk cX2_parseDeed 2 (some .boolean) false 86 [(.goto 99, 3)] = true := by decide +kernel
theorem bX2_parseDeed_89 : Blk cX2_parseDeed 2 (some .boolean) false 89 [(.aload 0, 1), (.aload 0, 1), (.getstatic 130, 3), (.iload 1, 1), (.aaload, 1)] = true := by decide +kernel
theorem bX2_parseDeed_99 : Blk cX2_parseDeed 2 (some .boolean) false 99 [(.freturn, 1)] = true := by decide +kernel
theorem bX2_parseWrite_0 : Blk cX2_parseWrite 2 (some .boolean) false 0 [(.aload 0, 1), (.iconst 15, 2)] = true := by decide +kernel
theorem bX2_parseWrite_6 : Blk cX2_parseWrite 2 (some .boolean) false 6 [(.ifCond .eq 34, 3), (.aload 0, 1), (.aload 1, 1)] = true := by decide +kernel
theorem bX2_parseWrite_14 : Blk cX2_parseWrite 2 (some .boolean) false 14 [(.ifCond .eq 34, 3), (.aload 0, 1), (.iconst 16, 2)] = true := by decide +kernel
theorem bX2_parseWrite_23 : Blk cX2_parseWrite 2 (some .boolean) false 23 [(.ifCond .eq 34, 3), (.aload 0, 1), (.iconst 2, 1)] = true := by decide +kernel
theorem bX2_parseWrite_31 : Blk cX2_parseWrite 2 (some .boolean) false 31 [(.ifCond .ne 36, 3)] = true := by decide +kernel
theorem bX2_parseWrite_34 : Blk cX2_parseWrite 2 (some .boolean) false 34 [(.iconst 0, 1), (.freturn, 1)] = true := by decide +kernel
theorem bX2_parseWrite_36 : Blk cX2_parseWrite 2 (some .boolean) false 36 [(.aload 1, 1), (.aload 0, 1)] = true := by decide +kernel
theorem bX2_parseWrite_41 : Blk cX2_parseWrite 2 (some .boolean) false 41 [(.putfield 2, 3), (.aload 0, 1), (.iconst 17, 2)] = true := by decide +kernel
theorem bX2_parseWrite_50 : Blk cX2_parseWrite 2 (some .boolean) false 50 [(.ifCond .eq 61, 3), (.aload 0, 1), (.iconst 2, 1)] = true := by decide +kernel
theorem bX2_parseWrite_58 : Blk cX2_parseWrite 2 (some .boolean) false 58 [(.ifCond .ne 63, 3)] = true := by decide +kernel
theorem bX2_parseWrite_61 : Blk cX2_parseWrite 2 (some .boolean) false 61 [(.iconst 0, 1), (.freturn, 1)] = true := by decide +kernel
theorem bX2_parseWrite_63 : Blk cX2_parseWrite 2 (some .boolean) false 63 [(.aload 1, 1), (.aload 0, 1)] = true := by decide +kernel
theorem bX2_parseWrite_68 : Blk cX2_parseWrite 2 (some .boolean) false 68 [(.putfield 3, 3), (.aload 0, 1), (.aload 1, 1), (.getfield 3, 3), (.iconst 1, 1), (.if_icmp .lt 89, 3), (.aload 1, 1), (.getfield 3, 3), (.iconst 100, 2), (.if_icmp .le 93, 3)] = true := by decide +kernel
theorem bX2_parseWrite_89 : Blk cX2_parseWrite 2 (some .boolean) false 89 [(.iconst 1, 1), (.goto 94, 3)] = true := by decide +kernel
theorem bX2_parseWrite_93 : Blk cX2_parseWrite 2 (some .boolean) false 93 [(.iconst 0, 1)] = true := by decide +kernel
theorem bX2_parseWrite_94 : Blk cX2_parseWrite 2 (some .boolean) false 94 [(.iconst 5, 1)] = true := by decide +kernel
theorem bX2_parseWrite_98 : Blk cX2_parseWrite 2 (some .boolean) false 98 [(.aload 0, 1), (.iconst 3, 1)] = true := by decide +kernel
theorem bX2_parseWrite_103 : Blk cX2_parseWrite 2 (some .boolean) false 103 [(.freturn, 1)] = true := by decide +kernel
theorem bX2_parseAsk_0 : Blk cX2_parseAsk 2 (some .boolean) false 0 [(.aload 0, 1), (.iconst 7, 2)] = true := by decide +kernel
theorem bX2_parseAsk_6 : Blk cX2_parseAsk 2 (some .boolean) false 6 [(.ifCond .eq 34, 3), (.aload 0, 1), (.aload 1, 1)] = true := by decide +kernel
theorem bX2_parseAsk_14 : Blk cX2_parseAsk 2 (some .boolean) false 14 [(.ifCond .eq 34, 3), (.aload 0, 1), (.iconst 9, 2)] = true := by decide +kernel
theorem bX2_parseAsk_23 : Blk cX2_parseAsk 2 (some .boolean) false 23 [(.ifCond .eq 34, 3), (.aload 0, 1), (.iconst 2, 1)] = true := by decide +kernel
theorem bX2_parseAsk_31 : Blk cX2_parseAsk 2 (some .boolean) false 31 [(.ifCond .ne 36, 3)] = true := by decide +kernel
theorem bX2_parseAsk_34 : Blk cX2_parseAsk 2 (some .boolean) false 34 [(.iconst 0, 1), (.freturn, 1)] = true := by decide +kernel
theorem bX2_parseAsk_36 : Blk cX2_parseAsk 2 (some .boolean) false 36 [(.aload 1, 1), (.aload 0, 1)] = true := by decide +kernel
theorem bX2_parseAsk_41 : Blk cX2_parseAsk 2 (some .boolean) false 41 [(.putfield 2, 3), (.aload 0, 1), (.aload 1, 1)] = true := by decide +kernel
theorem bX2_parseAsk_49 : Blk cX2_parseAsk 2 (some .boolean) false 49 [(.ifCond .eq 80, 3), (.aload 0, 1), (.aload 1, 1)] = true := by decide +kernel
theorem bX2_parseAsk_57 : Blk cX2_parseAsk 2 (some .boolean) false 57 [(.ifCond .eq 80, 3), (.aload 0, 1), (.aload 1, 1)] = true := by decide +kernel
theorem bX2_parseAsk_65 : Blk cX2_parseAsk 2 (some .boolean) false 65 [(.ifCond .eq 80, 3), (.aload 0, 1), (.iconst 3, 1)] = true := by decide +kernel
theorem bX2_parseAsk_73 : Blk cX2_parseAsk 2 (some .boolean) false 73 [(.ifCond .eq 80, 3), (.iconst 1, 1), (.goto 81, 3)] = true := by decide +kernel
theorem bX2_parseAsk_80 : Blk cX2_parseAsk 2 (some .boolean) false 80 [(.iconst 0, 1)] = true := by decide +kernel
theorem bX2_parseAsk_81 : Blk cX2_parseAsk 2 (some .boolean) false 81 [(.freturn, 1)] = true := by decide +kernel
theorem bX2_parseShare_0 : Blk cX2_parseShare 2 (some .boolean) false 0 [(.aload 0, 1), (.iconst 8, 2)] = true := by decide +kernel
theorem bX2_parseShare_6 : Blk cX2_parseShare 2 (some .boolean) false 6 [(.ifCond .eq 17, 3), (.aload 0, 1), (.iconst 2, 1)] = true := by decide +kernel
theorem bX2_parseShare_14 : Blk cX2_parseShare 2 (some .boolean) false 14 [(.ifCond .ne 19, 3)] = true := by decide +kernel
theorem bX2_parseShare_17 : Blk cX2_parseShare 2 (some .boolean) false 17 [(.iconst 0, 1), (.freturn, 1)] = true := by decide +kernel
theorem bX2_parseShare_19 : Blk cX2_parseShare 2 (some .boolean) false 19 [(.aload 1, 1), (.aload 0, 1)] = true := by decide +kernel
theorem bX2_parseShare_24 : Blk cX2_parseShare 2 (some .boolean) false 24 [(.putfield 1, 3), (.aload 0, 1), (.aload 1, 1), (.getfield 1, 3), (.iconst 1000, 3), (.if_icmp .le 42, 3), (.iconst 1, 1), (.goto 43, 3)] = true := by decide +kernel
theorem bX2_parseShare_42 : Blk cX2_parseShare 2 (some .boolean) false 42 [(.iconst 0, 1)] = true := by decide +kernel
theorem bX2_parseShare_43 : Blk cX2_parseShare 2 (some .boolean) false 43 [(.iconst 5, 1)] = true := by decide +kernel
theorem bX2_parseShare_47 : Blk cX2_parseShare 2 (some .boolean) false 47 [(.iconst 1, 1), (.freturn, 1)] = true := by decide +kernel
theorem bX2_parseConds_0 : Blk cX2_parseConds 2 (some .boolean) false 0 [(.aload 0, 1), (.getstatic 129, 3), (.getstatic 384, 3), (.aload 0, 1), (.getfield 131, 3), (.iaload, 1), (.iconst 10, 2), (.if_icmp .eq 19, 3), (.iconst 1, 1), (.freturn, 1)] = true := by decide +kernel
theorem bX2_parseConds_19 : Blk cX2_parseConds 2 (some .boolean) false 19 [(.iconst 0, 1), (.istore 2, 1)] = true := by decide +kernel
theorem bX2_parseConds_21 : Blk cX2_parseConds 2 (some .boolean) false 21 [(.iload 2, 1), (.iconst 4, 1), (.if_icmp .gt 79, 3), (.aload 0, 1), (.iload 2, 1), (.ifCond .ne 36, 3), (.iconst 10, 2), (.goto 38, 3)] = true := by decide +kernel
theorem bX2_parseConds_36 : Blk cX2_parseConds 2 (some .boolean) false 36 [(.iconst 11, 2)] = true := by decide +kernel
theorem bX2_parseConds_41 : Blk cX2_parseConds 2 (some .boolean) false 41 [(.ifCond .eq 52, 3), (.aload 0, 1), (.aload 1, 1)] = true := by decide +kernel
theorem bX2_parseConds_49 : Blk cX2_parseConds 2 (some .boolean) false 49 [(.ifCond .ne 54, 3)] = true := by decide +kernel
theorem bX2_parseConds_52 : Blk cX2_parseConds 2 (some .boolean) false 52 [(.iconst 0, 1), (.freturn, 1)] = true := by decide +kernel
theorem bX2_parseConds_54 : Blk cX2_parseConds 2 (some .boolean) false 54 [(.aload 0, 1), (.getstatic 129, 3), (.getstatic 384, 3), (.aload 0, 1), (.getfield 131, 3), (.iaload, 1), (.iconst 11, 2), (.if_icmp .eq 73, 3), (.iconst 1, 1), (.freturn, 1)] = true := by decide +kernel
theorem bX2_parseConds_73 : Blk cX2_parseConds 2 (some .boolean) false 73 [(.iinc 2 1, 3), (.goto 21, 3)] = true := by decide +kernel
theorem bX2_parseConds_79 : Blk cX2_parseConds 2 (some .boolean) false 79 [(.iconst 0, 1), (.freturn, 1)] = true := by decide +kernel
theorem bX2_parseCond_0 : Blk cX2_parseCond 2 (some .boolean) false 0 [(.aload 1, 1), (.getfield 4, 3), (.istore 2, 1), (.iload 2, 1), (.iconst 4, 1), (.if_icmp .lt 36, 3), (.aload 0, 1), (.aload 0, 1), (.getstatic 129, 3), (.getstatic 384, 3), (.aload 0, 1), (.getfield 131, 3), (.iaload, 1), (.iconst 2, 1), (.if_icmp .ne 31, 3), (.iconst 2, 1), (.goto 32, 3)] = true := by decide +kernel
theorem bX2_parseCond_31 : Blk cX2_parseCond 2 (some .boolean) false 31 [(.iconst 1, 1)] = true := by decide +kernel
theorem bX2_parseCond_35 : Blk cX2_parseCond 2 (some .boolean) false 35 [(.freturn, 1)] = true := by decide +kernel
theorem bX2_parseCond_36 : Blk cX2_parseCond 2 (some .boolean) false 36 [(.aload 0, 1), (.iconst 2, 1)] = true := by decide +kernel
theorem bX2_parseCond_41 : Blk cX2_parseCond 2 (some .boolean) false 41 [(.ifCond .ne 46, 3), (.iconst 0, 1), (.freturn, 1)] = true := by decide +kernel
theorem bX2_parseCond_46 : Blk cX2_parseCond 2 (some .boolean) false 46 [(.aload 0, 1), (.aload 1, 1), (.aload 0, 1)] = true := by decide +kernel
theorem bX2_parseCond_55 : Blk cX2_parseCond 2 (some .boolean) false 55 [(.iconst (-1), 1), (.if_icmp .eq 63, 3), (.iconst 1, 1), (.goto 64, 3)] = true := by decide +kernel
theorem bX2_parseCond_63 : Blk cX2_parseCond 2 (some .boolean) false 63 [(.iconst 0, 1)] = true := by decide +kernel
theorem bX2_parseCond_64 : Blk cX2_parseCond 2 (some .boolean) false 64 [(.iconst 3, 1)] = true := by decide +kernel
theorem bX2_parseCond_68 : Blk cX2_parseCond 2 (some .boolean) false 68 [(.aload 1, 1), (.getstatic 5, 3), (.iload 2, 1), (.aload 0, 1), (.aload 1, 1), (.getfield 2, 3)] = true := by decide +kernel
theorem bX2_parseCond_81 : Blk cX2_parseCond 2 (some .boolean) false 81 [(.iastore, 1), (.aload 1, 1), (.getstatic 6, 3), (.iload 2, 1), (.aload 0, 1), (.getstatic 129, 3), (.getstatic 384, 3), (.aload 0, 1), (.getfield 131, 3), (.iaload, 1), (.iconst 5, 1), (.if_icmp .ne 107, 3), (.iconst 1, 1), (.goto 108, 3)] = true := by decide +kernel
theorem bX2_parseCond_107 : Blk cX2_parseCond 2 (some .boolean) false 107 [(.iconst 0, 1)] = true := by decide +kernel
theorem bX2_parseCond_108 : Blk cX2_parseCond 2 (some .boolean) false 108 [(.castore, 1), (.aload 0, 1), (.aload 1, 1), (.getstatic 6, 3), (.iload 2, 1), (.caload, 1), (.ifCond .eq 123, 3), (.iconst 5, 1), (.goto 124, 3)] = true := by decide +kernel
theorem bX2_parseCond_123 : Blk cX2_parseCond 2 (some .boolean) false 123 [(.iconst 4, 1)] = true := by decide +kernel
theorem bX2_parseCond_127 : Blk cX2_parseCond 2 (some .boolean) false 127 [(.ifCond .eq 138, 3), (.aload 0, 1), (.iconst 2, 1)] = true := by decide +kernel
theorem bX2_parseCond_135 : Blk cX2_parseCond 2 (some .boolean) false 135 [(.ifCond .ne 140, 3)] = true := by decide +kernel
theorem bX2_parseCond_138 : Blk cX2_parseCond 2 (some .boolean) false 138 [(.iconst 0, 1), (.freturn, 1)] = true := by decide +kernel
theorem bX2_parseCond_140 : Blk cX2_parseCond 2 (some .boolean) false 140 [(.aload 1, 1), (.getstatic 7, 3), (.iload 2, 1), (.aload 0, 1)] = true := by decide +kernel
theorem bX2_parseCond_149 : Blk cX2_parseCond 2 (some .boolean) false 149 [(.iastore, 1), (.aload 0, 1), (.aload 1, 1), (.getstatic 7, 3), (.iload 2, 1), (.iaload, 1), (.iconst 15, 2), (.if_icmp .le 166, 3), (.iconst 1, 1), (.goto 167, 3)] = true := by decide +kernel
theorem bX2_parseCond_166 : Blk cX2_parseCond 2 (some .boolean) false 166 [(.iconst 0, 1)] = true := by decide +kernel
theorem bX2_parseCond_167 : Blk cX2_parseCond 2 (some .boolean) false 167 [(.iconst 5, 1)] = true := by decide +kernel
theorem bX2_parseCond_171 : Blk cX2_parseCond 2 (some .boolean) false 171 [(.aload 1, 1), (.dup, 1), (.getfield 4, 3), (.iconst 1, 1), (.iadd, 1), (.putfield 4, 3), (.iconst 1, 1), (.freturn, 1)] = true := by decide +kernel
theorem bX2_parseJoin_0 : Blk cX2_parseJoin 2 (some .boolean) false 0 [(.aload 0, 1), (.getstatic 129, 3), (.getstatic 384, 3), (.aload 0, 1), (.getfield 131, 3), (.iaload, 1), (.iconst 12, 2), (.if_icmp .eq 19, 3), (.iconst 1, 1), (.freturn, 1)] = true := by decide +kernel
theorem bX2_parseJoin_19 : Blk cX2_parseJoin 2 (some .boolean) false 19 [(.aload 0, 1), (.iconst 12, 2)] = true := by decide +kernel
theorem bX2_parseJoin_25 : Blk cX2_parseJoin 2 (some .boolean) false 25 [(.ifCond .eq 36, 3), (.aload 0, 1), (.iconst 2, 1)] = true := by decide +kernel
theorem bX2_parseJoin_33 : Blk cX2_parseJoin 2 (some .boolean) false 33 [(.ifCond .ne 38, 3)] = true := by decide +kernel
theorem bX2_parseJoin_36 : Blk cX2_parseJoin 2 (some .boolean) false 36 [(.iconst 0, 1), (.freturn, 1)] = true := by decide +kernel
theorem bX2_parseJoin_38 : Blk cX2_parseJoin 2 (some .boolean) false 38 [(.aload 1, 1), (.aload 0, 1)] = true := by decide +kernel
theorem bX2_parseJoin_43 : Blk cX2_parseJoin 2 (some .boolean) false 43 [(.putfield 8, 3), (.aload 0, 1), (.iconst 13, 2)] = true := by decide +kernel
theorem bX2_parseJoin_52 : Blk cX2_parseJoin 2 (some .boolean) false 52 [(.ifCond .eq 63, 3), (.aload 0, 1), (.iconst 2, 1)] = true := by decide +kernel
theorem bX2_parseJoin_60 : Blk cX2_parseJoin 2 (some .boolean) false 60 [(.ifCond .ne 65, 3)] = true := by decide +kernel
theorem bX2_parseJoin_63 : Blk cX2_parseJoin 2 (some .boolean) false 63 [(.iconst 0, 1), (.freturn, 1)] = true := by decide +kernel
theorem bX2_parseJoin_65 : Blk cX2_parseJoin 2 (some .boolean) false 65 [(.aload 1, 1), (.aload 0, 1), (.aload 1, 1), (.getfield 2, 3)] = true := by decide +kernel
theorem bX2_parseJoin_74 : Blk cX2_parseJoin 2 (some .boolean) false 74 [(.putfield 9, 3), (.aload 0, 1), (.iconst 6, 2)] = true := by decide +kernel
theorem bX2_parseJoin_83 : Blk cX2_parseJoin 2 (some .boolean) false 83 [(.ifCond .eq 94, 3), (.aload 0, 1), (.iconst 2, 1)] = true := by decide +kernel
theorem bX2_parseJoin_91 : Blk cX2_parseJoin 2 (some .boolean) false 91 [(.ifCond .ne 96, 3)] = true := by decide +kernel
theorem bX2_parseJoin_94 : Blk cX2_parseJoin 2 (some .boolean) false 94 [(.iconst 0, 1), (.freturn, 1)] = true := by decide +kernel
theorem bX2_parseJoin_96 : Blk cX2_parseJoin 2 (some .boolean) false 96 [(.aload 1, 1), (.aload 0, 1), (.aload 1, 1), (.getfield 8, 3)] = true := by decide +kernel
theorem bX2_parseJoin_105 : Blk cX2_parseJoin 2 (some .boolean) false 105 [(.putfield 10, 3), (.iconst 1, 1), (.freturn, 1)] = true := by decide +kernel
theorem bX2_parseOrder_0 : Blk cX2_parseOrder 2 (some .boolean) false 0 [(.aload 0, 1), (.getstatic 129, 3), (.getstatic 384, 3), (.aload 0, 1), (.getfield 131, 3), (.iaload, 1), (.iconst 14, 2), (.if_icmp .eq 19, 3), (.iconst 1, 1), (.freturn, 1)] = true := by decide +kernel
theorem bX2_parseOrder_19 : Blk cX2_parseOrder 2 (some .boolean) false 19 [(.aload 0, 1), (.iconst 14, 2)] = true := by decide +kernel
theorem bX2_parseOrder_25 : Blk cX2_parseOrder 2 (some .boolean) false 25 [(.ifCond .eq 36, 3), (.aload 0, 1), (.iconst 2, 1)] = true := by decide +kernel
theorem bX2_parseOrder_33 : Blk cX2_parseOrder 2 (some .boolean) false 33 [(.ifCond .ne 38, 3)] = true := by decide +kernel
theorem bX2_parseOrder_36 : Blk cX2_parseOrder 2 (some .boolean) false 36 [(.iconst 0, 1), (.freturn, 1)] = true := by decide +kernel
theorem bX2_parseOrder_38 : Blk cX2_parseOrder 2 (some .boolean) false 38 [(.aload 1, 1), (.aload 0, 1), (.aload 1, 1), (.getfield 2, 3)] = true := by decide +kernel
theorem bX2_parseOrder_47 : Blk cX2_parseOrder 2 (some .boolean) false 47 [(.putfield 11, 3), (.iconst 1, 1), (.freturn, 1)] = true := by decide +kernel
theorem bX2_take_0 : Blk cX2_take 2 (some .boolean) false 0 [(.aload 0, 1), (.getstatic 129, 3), (.getstatic 384, 3), (.aload 0, 1), (.getfield 131, 3), (.iaload, 1), (.iload 1, 1), (.if_icmp .eq 22, 3), (.aload 0, 1), (.iconst 1, 1)] = true := by decide +kernel
theorem bX2_take_21 : Blk cX2_take 2 (some .boolean) false 21 [(.freturn, 1)] = true := by decide +kernel
theorem bX2_take_22 : Blk cX2_take 2 (some .boolean) false 22 [(.aload 0, 1), (.getfield 131, 3), (.iconst 300, 3), (.if_icmp .lt 38, 3), (.aload 0, 1), (.iconst 2, 1)] = true := by decide +kernel
theorem bX2_take_37 : Blk cX2_take 2 (some .boolean) false 37 [(.freturn, 1)] = true := by decide +kernel
theorem bX2_take_38 : Blk cX2_take 2 (some .boolean) false 38 [(.aload 0, 1), (.dup, 1), (.getfield 131, 3), (.iconst 1, 1), (.iadd, 1), (.putfield 131, 3), (.iconst 1, 1), (.freturn, 1)] = true := by decide +kernel
theorem bX2_taken_0 : Blk cX2_taken 2 (some .int) false 0 [(.aload 0, 1), (.getfield 131, 3), (.ifCond .le 24, 3), (.aload 0, 1), (.getstatic 129, 3), (.getstatic 386, 3), (.aload 0, 1), (.getfield 131, 3), (.iconst 1, 1), (.isub, 1), (.iaload, 1), (.goto 25, 3)] = true := by decide +kernel
theorem bX2_taken_24 : Blk cX2_taken 2 (some .int) false 24 [(.iconst 0, 1)] = true := by decide +kernel
theorem bX2_taken_25 : Blk cX2_taken 2 (some .int) false 25 [(.ireturn, 1)] = true := by decide +kernel
theorem bX2_takenTable_0 : Blk cX2_takenTable 2 (some .int) false 0 [(.aload 0, 1)] = true := by decide +kernel
theorem bX2_takenTable_4 : Blk cX2_takenTable 2 (some .int) false 4 [(.istore 1, 1), (.aload 0, 1), (.aload 0, 1), (.iload 1, 1)] = true := by decide +kernel
theorem bX2_takenTable_11 : Blk cX2_takenTable 2 (some .int) false 11 [(.ifCond .ne 18, 3), (.iconst 1, 1), (.goto 19, 3)] = true := by decide +kernel
theorem bX2_takenTable_18 : Blk cX2_takenTable 2 (some .int) false 18 [(.iconst 0, 1)] = true := by decide +kernel
theorem bX2_takenTable_19 : Blk cX2_takenTable 2 (some .int) false 19 [(.iconst 4, 1)] = true := by decide +kernel
theorem bX2_takenTable_23 : Blk cX2_takenTable 2 (some .int) false 23 [(.iload 1, 1), (.ireturn, 1)] = true := by decide +kernel
theorem bX2_takenColumn_0 : Blk cX2_takenColumn 2 (some .int) false 0 [(.aload 0, 1)] = true := by decide +kernel
theorem bX2_takenColumn_4 : Blk cX2_takenColumn 2 (some .int) false 4 [(.istore 2, 1), (.aload 0, 1), (.iload 2, 1), (.aload 0, 1), (.iload 1, 1)] = true := by decide +kernel
theorem bX2_takenColumn_12 : Blk cX2_takenColumn 2 (some .int) false 12 [(.if_icmp .lt 19, 3), (.iconst 1, 1), (.goto 20, 3)] = true := by decide +kernel
theorem bX2_takenColumn_19 : Blk cX2_takenColumn 2 (some .int) false 19 [(.iconst 0, 1)] = true := by decide +kernel
theorem bX2_takenColumn_20 : Blk cX2_takenColumn 2 (some .int) false 20 [(.iconst 4, 1)] = true := by decide +kernel
theorem bX2_takenColumn_24 : Blk cX2_takenColumn 2 (some .int) false 24 [(.iload 2, 1), (.ireturn, 1)] = true := by decide +kernel
theorem bX2_widthOf_0 : Blk cX2_widthOf 2 (some .int) false 0 [(.iload 1, 1), (.ifCond .lt 18, 3), (.iload 1, 1), (.iconst 4, 1), (.if_icmp .ge 18, 3), (.aload 0, 1), (.getstatic 128, 3), (.iload 1, 1), (.iaload, 1), (.goto 19, 3)] = true := by decide +kernel
theorem bX2_widthOf_18 : Blk cX2_widthOf 2 (some .int) false 18 [(.iconst 0, 1)] = true := by decide +kernel
theorem bX2_widthOf_19 : Blk cX2_widthOf 2 (some .int) false 19 [(.ireturn, 1)] = true := by decide +kernel
theorem bX2_stop_0 : Blk cX2_stop 2 (some .boolean) false 0 [(.aload 0, 1), (.iload 1, 1), (.putfield 133, 3), (.aload 0, 1), (.aload 0, 1), (.getstatic 129, 3), (.getstatic 385, 3), (.aload 0, 1), (.getfield 131, 3), (.iaload, 1), (.putfield 134, 3), (.iconst 0, 1), (.freturn, 1)] = true := by decide +kernel
theorem bX2_note_0 : Blk cX2_note 2 none false 0 [(.iload 1, 1), (.ifCond .eq 41, 3), (.aload 0, 1), (.getfield 133, 3), (.ifCond .ne 41, 3), (.aload 0, 1), (.getfield 131, 3), (.ifCond .le 41, 3), (.aload 0, 1), (.iload 2, 1), (.putfield 133, 3), (.aload 0, 1), (.aload 0, 1), (.getstatic 129, 3), (.getstatic 385, 3), (.aload 0, 1), (.getfield 131, 3), (.iconst 1, 1), (.isub, 1), (.iaload, 1), (.putfield 134, 3)] = true := by decide +kernel
theorem bX2_note_41 : Blk cX2_note 2 none false 41 [(.return_, 1)] = true := by decide +kernel
theorem bX3_init_0 : Blk cX3_init 3 none true 0 [(.aload 0, 1)] = true := by decide +kernel
theorem bX3_init_4 : Blk cX3_init 3 none true 4 [(.aload 0, 1), (.iconst 0, 1), (.checkcast 192, 3), (.aload 0, 1), (.iconst 0, 1), (.putfield 193, 3), (.aload 0, 1), (.iconst 0, 1), (.putfield 194, 3), (.aload 0, 1), (.iconst 0, 1), (.putfield 195, 3), (.aload 0, 1), (.iconst 0, 1), (.putfield 196, 3), (.aload 0, 1), (.iconst 0, 1), (.checkcast 197, 3), (.aload 0, 1), (.iconst 8, 2)] = true := by decide +kernel
theorem bX3_init_39 : Blk cX3_init 3 none true 39 [(.putstatic 198, 3), (.aload 0, 1), (.iconst 0, 1), (.putfield 199, 3), (.aload 0, 1), (.iconst 0, 1), (.checkcast 200, 3), (.aload 0, 1), (.iconst 0, 1), (.putfield 201, 3), (.aload 0, 1), (.iconst 0, 1), (.putfield 202, 3), (.aload 0, 1), (.iconst 0, 1), (.putfield 203, 3), (.aload 0, 1), (.iconst 0, 1), (.putfield 204, 3), (.aload 0, 1), (.iconst (-1), 1), (.putfield 205, 3), (.aload 0, 1), (.iconst 0, 1), (.putfield 206, 3), (.aload 0, 1), (.iconst 0, 1), (.putfield 207, 3), (.aload 0, 1), (.iconst (-1), 1), (.putfield 208, 3), (.aload 0, 1), (.iconst 0, 1), (.putfield 209, 3), (.return_, 1)] = true := by decide +kernel
theorem bX3_measure_0 : Blk cX3_measure 3 none false 0 [(.aload 2, 1), (.aload 1, 1), (.getfield 2, 3), (.aaload, 1), (.astore 5, 2), (.aload 0, 1), (.aload 1, 1), (.getfield 0, 3), (.checkcast 192, 3), (.aload 0, 1), (.aload 1, 1), (.getfield 3, 3), (.putfield 193, 3), (.aload 0, 1), (.aload 5, 2)] = true := by decide +kernel
theorem bX3_measure_30 : Blk cX3_measure 3 none false 30 [(.putfield 196, 3), (.aload 0, 1), (.aload 1, 1), (.getfield 11, 3), (.iconst (-1), 1), (.if_icmp .eq 46, 3), (.iconst 1, 1), (.goto 47, 3)] = true := by decide +kernel
theorem bX3_measure_46 : Blk cX3_measure 3 none false 46 [(.iconst 0, 1)] = true := by decide +kernel
theorem bX3_measure_47 : Blk cX3_measure 3 none false 47 [(.checkcast 197, 3), (.aload 0, 1), (.aload 1, 1), (.aload 5, 2), (.aload 1, 1)] = true := by decide +kernel
theorem bX3_measure_61 : Blk cX3_measure 3 none false 61 [(.putfield 195, 3), (.aload 0, 1), (.aload 1, 1), (.aload 5, 2), (.aload 3, 1), (.iload 4, 2)] = true := by decide +kernel
theorem bX3_measure_74 : Blk cX3_measure 3 none false 74 [(.aload 0, 1), (.aload 1, 1), (.getfield 8, 3), (.ifCond .lt 95, 3), (.aload 1, 1), (.getfield 8, 3), (.aload 2, 1)] = true := by decide +kernel
theorem bX3_measure_88 : Blk cX3_measure 3 none false 88 [(.if_icmp .ge 95, 3), (.iconst 1, 1), (.goto 96, 3)] = true := by decide +kernel
theorem bX3_measure_95 : Blk cX3_measure 3 none false 95 [(.iconst 0, 1)] = true := by decide +kernel
theorem bX3_measure_96 : Blk cX3_measure 3 none false 96 [(.checkcast 200, 3), (.aload 0, 1), (.getfield 200, 3), (.ifCond .eq 127, 3), (.aload 0, 1), (.aload 1, 1), (.aload 5, 2), (.aload 2, 1), (.aload 1, 1), (.getfield 8, 3), (.aaload, 1)] = true := by decide +kernel
theorem bX3_measure_119 : Blk cX3_measure 3 none false 119 [(.aload 0, 1), (.aload 1, 1), (.aload 3, 1), (.iload 4, 2)] = true := by decide +kernel
theorem bX3_measure_127 : Blk cX3_measure 3 none false 127 [(.return_, 1)] = true := by decide +kernel
theorem bX3_measureIndexes_0 : Blk cX3_measureIndexes 3 none false 0 [(.aload 0, 1), (.iconst 0, 1), (.putfield 194, 3), (.aload 0, 1), (.iconst 0, 1), (.putfield 199, 3), (.iconst 0, 1), (.istore 5, 2)] = true := by decide +kernel
theorem bX3_measureIndexes_13 : Blk cX3_measureIndexes 3 none false 13 [(.iload 5, 2), (.iload 4, 2), (.if_icmp .ge 117, 3), (.aload 0, 1), (.getstatic 198, 3), (.iload 5, 2), (.iconst (-1), 1), (.iastore, 1), (.aload 3, 1), (.iload 5, 2), (.aaload, 1), (.getfield 64, 3), (.aload 1, 1), (.getfield 2, 3), (.if_icmp .ne 111, 3), (.aload 0, 1), (.dup, 1), (.getfield 194, 3), (.iconst 1, 1), (.iload 5, 2), (.ishl, 1), (.ior, 1), (.putfield 194, 3), (.aload 1, 1), (.aload 3, 1), (.iload 5, 2), (.aaload, 1)] = true := by decide +kernel
theorem bX3_measureIndexes_63 : Blk cX3_measureIndexes 3 none false 63 [(.istore 6, 2), (.iload 6, 2), (.ifCond .eq 87, 3), (.aload 0, 1), (.getstatic 198, 3), (.iload 5, 2), (.aload 1, 1), (.aload 2, 1), (.iload 6, 2)] = true := by decide +kernel
theorem bX3_measureIndexes_86 : Blk cX3_measureIndexes 3 none false 86 [(.iastore, 1)] = true := by decide +kernel
theorem bX3_measureIndexes_87 : Blk cX3_measureIndexes 3 none false 87 [(.aload 1, 1), (.aload 3, 1), (.iload 5, 2), (.aaload, 1)] = true := by decide +kernel
theorem bX3_measureIndexes_95 : Blk cX3_measureIndexes 3 none false 95 [(.ifCond .eq 111, 3), (.aload 0, 1), (.dup, 1), (.getfield 199, 3), (.iconst 1, 1), (.iload 5, 2), (.ishl, 1), (.ior, 1), (.putfield 199, 3)] = true := by decide +kernel
theorem bX3_measureIndexes_111 : Blk cX3_measureIndexes 3 none false 111 [(.iinc 5 1, 3), (.goto 13, 3)] = true := by decide +kernel
theorem bX3_measureIndexes_117 : Blk cX3_measureIndexes 3 none false 117 [(.return_, 1)] = true := by decide +kernel
theorem bX3_measureJoin_0 : Blk cX3_measureJoin 3 none false 0 [(.aload 0, 1), (.aload 3, 1)] = true := by decide +kernel
theorem bX3_measureJoin_5 : Blk cX3_measureJoin 3 none false 5 [(.putfield 201, 3), (.aload 0, 1), (.aload 3, 1), (.getfield 257, 3), (.putfield 202, 3), (.aload 0, 1), (.iconst 0, 1), (.putfield 204, 3), (.iconst 0, 1), (.istore 4, 2)] = true := by decide +kernel
theorem bX3_measureJoin_24 : Blk cX3_measureJoin 3 none false 24 [(.iload 4, 2), (.aload 2, 1), (.getfield 257, 3), (.if_icmp .ge 87, 3), (.aload 1, 1), (.aload 2, 1), (.iload 4, 2), (.aload 1, 1)] = true := by decide +kernel
theorem bX3_measureJoin_44 : Blk cX3_measureJoin 3 none false 44 [(.ifCond .eq 81, 3), (.aload 2, 1), (.iload 4, 2), (.aload 1, 1), (.getfield 9, 3)] = true := by decide +kernel
theorem bX3_measureJoin_57 : Blk cX3_measureJoin 3 none false 57 [(.istore 5, 2), (.aload 0, 1), (.dup, 1), (.getfield 204, 3), (.aload 3, 1), (.aload 1, 1), (.getfield 10, 3), (.iload 5, 2)] = true := by decide +kernel
theorem bX3_measureJoin_77 : Blk cX3_measureJoin 3 none false 77 [(.iadd, 1), (.putfield 204, 3)] = true := by decide +kernel
theorem bX3_measureJoin_81 : Blk cX3_measureJoin 3 none false 81 [(.iinc 4 1, 3), (.goto 24, 3)] = true := by decide +kernel
theorem bX3_measureJoin_87 : Blk cX3_measureJoin 3 none false 87 [(.return_, 1)] = true := by decide +kernel
theorem bX3_findJoinMoves_0 : Blk cX3_findJoinMoves 3 none false 0 [(.aload 0, 1), (.iconst 0, 1), (.putfield 203, 3), (.iconst 0, 1), (.istore 4, 2)] = true := by decide +kernel
theorem bX3_findJoinMoves_8 : Blk cX3_findJoinMoves 3 none false 8 [(.iload 4, 2), (.iload 3, 1), (.if_icmp .ge 63, 3), (.aload 2, 1), (.iload 4, 2), (.aaload, 1), (.getfield 64, 3), (.aload 1, 1), (.getfield 8, 3), (.if_icmp .ne 57, 3), (.aload 2, 1), (.iload 4, 2), (.aaload, 1), (.getstatic 65, 3), (.iconst 0, 1), (.iaload, 1), (.aload 1, 1), (.getfield 10, 3), (.if_icmp .ne 57, 3), (.aload 0, 1), (.dup, 1), (.getfield 203, 3), (.iconst 1, 1), (.iload 4, 2), (.ishl, 1), (.ior, 1), (.putfield 203, 3)] = true := by decide +kernel
theorem bX3_findJoinMoves_57 : Blk cX3_findJoinMoves 3 none false 57 [(.iinc 4 1, 3), (.goto 8, 3)] = true := by decide +kernel
theorem bX3_findJoinMoves_63 : Blk cX3_findJoinMoves 3 none false 63 [(.return_, 1)] = true := by decide +kernel
theorem bX3_costWith_0 : Blk cX3_costWith 3 (some .int) false 0 [(.aload 0, 1), (.getfield 192, 3), (.ifCond .eq 29, 3), (.aload 0, 1), (.getfield 193, 3), (.iconst 2, 1), (.aload 0, 1), (.getfield 193, 3), (.imul, 1), (.iload 1, 1), (.aload 0, 1), (.getfield 194, 3), (.iand, 1)] = true := by decide +kernel
theorem bX3_costWith_26 : Blk cX3_costWith 3 (some .int) false 26 [(.imul, 1), (.iadd, 1), (.ireturn, 1)] = true := by decide +kernel
theorem bX3_costWith_29 : Blk cX3_costWith 3 (some .int) false 29 [(.aload 0, 1), (.iload 1, 1), (.iload 2, 1)] = true := by decide +kernel
theorem bX3_costWith_35 : Blk cX3_costWith 3 (some .int) false 35 [(.aload 0, 1), (.iload 1, 1), (.iload 2, 1)] = true := by decide +kernel
theorem bX3_costWith_41 : Blk cX3_costWith 3 (some .int) false 41 [(.aload 0, 1), (.getfield 206, 3), (.aload 0, 1), (.getfield 207, 3), (.iadd, 1), (.aload 0, 1), (.getfield 209, 3), (.iadd, 1), (.ireturn, 1)] = true := by decide +kernel
theorem bX3_chooseAccess_0 : Blk cX3_chooseAccess 3 none false 0 [(.aload 0, 1), (.getfield 197, 3), (.ifCond .ne 11, 3), (.iconst 0, 1), (.goto 32, 3)] = true := by decide +kernel
theorem bX3_chooseAccess_11 : Blk cX3_chooseAccess 3 none false 11 [(.aload 0, 1), (.getfield 195, 3), (.iload 2, 1), (.if_icmp .gt 26, 3), (.aload 0, 1), (.getfield 195, 3), (.goto 32, 3)] = true := by decide +kernel
theorem bX3_chooseAccess_26 : Blk cX3_chooseAccess 3 none false 26 [(.iconst 3, 1), (.aload 0, 1), (.getfield 195, 3), (.imul, 1)] = true := by decide +kernel
theorem bX3_chooseAccess_32 : Blk cX3_chooseAccess 3 none false 32 [(.istore 3, 1), (.aload 0, 1), (.iconst (-1), 1), (.putfield 205, 3), (.aload 0, 1), (.aload 0, 1), (.getfield 196, 3), (.putfield 206, 3), (.aload 0, 1), (.iload 3, 1), (.putfield 207, 3), (.iconst 0, 1), (.istore 4, 2)] = true := by decide +kernel
theorem bX3_chooseAccess_54 : Blk cX3_chooseAccess 3 none false 54 [(.iload 4, 2), (.iconst 8, 2), (.if_icmp .ge 156, 3), (.iload 4, 2), (.iload 1, 1), (.aload 0, 1), (.getfield 194, 3), (.iand, 1)] = true := by decide +kernel
theorem bX3_chooseAccess_72 : Blk cX3_chooseAccess 3 none false 72 [(.ifCond .eq 150, 3), (.aload 0, 1), (.getstatic 198, 3), (.iload 4, 2), (.iaload, 1), (.iconst (-1), 1), (.if_icmp .eq 150, 3), (.iload 4, 2), (.aload 0, 1), (.getfield 199, 3)] = true := by decide +kernel
theorem bX3_chooseAccess_95 : Blk cX3_chooseAccess 3 none false 95 [(.ifCond .eq 102, 3), (.iconst 0, 1), (.goto 103, 3)] = true := by decide +kernel
theorem bX3_chooseAccess_102 : Blk cX3_chooseAccess 3 none false 102 [(.iload 3, 1)] = true := by decide +kernel
theorem bX3_chooseAccess_103 : Blk cX3_chooseAccess 3 none false 103 [(.istore 5, 2), (.aload 0, 1), (.getstatic 198, 3), (.iload 4, 2), (.iaload, 1), (.iload 5, 2), (.iadd, 1), (.aload 0, 1), (.getfield 206, 3), (.aload 0, 1), (.getfield 207, 3), (.iadd, 1), (.if_icmp .ge 150, 3), (.aload 0, 1), (.iload 4, 2), (.putfield 205, 3), (.aload 0, 1), (.aload 0, 1), (.getstatic 198, 3), (.iload 4, 2), (.iaload, 1), (.putfield 206, 3), (.aload 0, 1), (.iload 5, 2), (.putfield 207, 3)] = true := by decide +kernel
theorem bX3_chooseAccess_150 : Blk cX3_chooseAccess 3 none false 150 [(.iinc 4 1, 3), (.goto 54, 3)] = true := by decide +kernel
theorem bX3_chooseAccess_156 : Blk cX3_chooseAccess 3 none false 156 [(.return_, 1)] = true := by decide +kernel
theorem bX3_chooseJoin_0 : Blk cX3_chooseJoin 3 none false 0 [(.aload 0, 1), (.iconst (-1), 1), (.putfield 208, 3), (.aload 0, 1), (.iconst 0, 1), (.putfield 209, 3), (.aload 0, 1), (.getfield 200, 3), (.ifCond .ne 18, 3), (.return_, 1)] = true := by decide +kernel
theorem bX3_chooseJoin_18 : Blk cX3_chooseJoin 3 none false 18 [(.aload 0, 1), (.aload 0, 1), (.getfield 201, 3), (.aload 0, 1), (.getfield 195, 3), (.imul, 1), (.putfield 209, 3), (.aload 0, 1), (.getfield 202, 3), (.iload 2, 1), (.if_icmp .gt 59, 3), (.aload 0, 1), (.aload 0, 1), (.getfield 209, 3), (.aload 0, 1), (.getfield 201, 3), (.aload 0, 1), (.getfield 195, 3), (.iadd, 1)] = true := by decide +kernel
theorem bX3_chooseJoin_56 : Blk cX3_chooseJoin 3 none false 56 [(.putfield 209, 3)] = true := by decide +kernel
theorem bX3_chooseJoin_59 : Blk cX3_chooseJoin 3 none false 59 [(.iconst 0, 1), (.istore 3, 1)] = true := by decide +kernel
theorem bX3_chooseJoin_61 : Blk cX3_chooseJoin 3 none false 61 [(.iload 3, 1), (.iconst 8, 2), (.if_icmp .ge 110, 3), (.iload 3, 1), (.iload 1, 1), (.aload 0, 1), (.getfield 203, 3), (.iand, 1)] = true := by decide +kernel
theorem bX3_chooseJoin_77 : Blk cX3_chooseJoin 3 none false 77 [(.ifCond .eq 104, 3), (.aload 0, 1), (.getfield 204, 3), (.aload 0, 1), (.getfield 209, 3), (.if_icmp .ge 104, 3), (.aload 0, 1), (.iload 3, 1), (.putfield 208, 3), (.aload 0, 1), (.aload 0, 1), (.getfield 204, 3), (.putfield 209, 3)] = true := by decide +kernel
theorem bX3_chooseJoin_104 : Blk cX3_chooseJoin 3 none false 104 [(.iinc 3 1, 3), (.goto 61, 3)] = true := by decide +kernel
theorem bX3_chooseJoin_110 : Blk cX3_chooseJoin 3 none false 110 [(.return_, 1)] = true := by decide +kernel
theorem bX4_init_0 : Blk cX4_init 4 none true 0 [(.aload 0, 1)] = true := by decide +kernel
theorem bX4_init_4 : Blk cX4_init 4 none true 4 [(.aload 0, 1), (.iconst 0, 1), (.putfield 256, 3), (.aload 0, 1), (.iconst 0, 1), (.putfield 257, 3), (.aload 0, 1), (.iconst 256, 3)] = true := by decide +kernel
theorem bX4_init_20 : Blk cX4_init 4 none true 20 [(.putstatic 258, 3), (.aload 0, 1), (.iconst 64, 2)] = true := by decide +kernel
theorem bX4_init_28 : Blk cX4_init 4 none true 28 [(.putstatic 259, 3), (.return_, 1)] = true := by decide +kernel
theorem bX4_hasColumn_0 : Blk cX4_hasColumn 4 (some .boolean) false 0 [(.iload 1, 1), (.ifCond .lt 16, 3), (.iload 1, 1), (.aload 0, 1), (.getfield 256, 3), (.if_icmp .ge 16, 3), (.iconst 1, 1), (.goto 17, 3)] = true := by decide +kernel
theorem bX4_hasColumn_16 : Blk cX4_hasColumn 4 (some .boolean) false 16 [(.iconst 0, 1)] = true := by decide +kernel
theorem bX4_hasColumn_17 : Blk cX4_hasColumn 4 (some .boolean) false 17 [(.freturn, 1)] = true := by decide +kernel
theorem bX4_takesValue_0 : Blk cX4_takesValue 4 (some .boolean) false 0 [(.iload 2, 1), (.ifCond .lt 26, 3), (.iload 2, 1), (.iload 1, 1), (.aload 0, 1), (.getfield 256, 3), (.if_icmp .ge 18, 3), (.iconst 15, 2), (.goto 19, 3)] = true := by decide +kernel
theorem bX4_takesValue_18 : Blk cX4_takesValue 4 (some .boolean) false 18 [(.iconst 0, 1)] = true := by decide +kernel
theorem bX4_takesValue_19 : Blk cX4_takesValue 4 (some .boolean) false 19 [(.if_icmp .gt 26, 3), (.iconst 1, 1), (.goto 27, 3)] = true := by decide +kernel
theorem bX4_takesValue_26 : Blk cX4_takesValue 4 (some .boolean) false 26 [(.iconst 0, 1)] = true := by decide +kernel
theorem bX4_takesValue_27 : Blk cX4_takesValue 4 (some .boolean) false 27 [(.freturn, 1)] = true := by decide +kernel
theorem bX4_append_0 : Blk cX4_append 4 none false 0 [(.aload 0, 1), (.iconst 0, 1), (.iload 1, 1)] = true := by decide +kernel
theorem bX4_append_6 : Blk cX4_append 4 none false 6 [(.aload 0, 1), (.iconst 1, 1), (.iload 2, 1)] = true := by decide +kernel
theorem bX4_append_12 : Blk cX4_append 4 none false 12 [(.aload 0, 1), (.iconst 2, 1), (.iload 3, 1)] = true := by decide +kernel
theorem bX4_append_18 : Blk cX4_append 4 none false 18 [(.aload 0, 1), (.iconst 3, 1), (.iload 4, 2)] = true := by decide +kernel
theorem bX4_append_25 : Blk cX4_append 4 none false 25 [(.aload 0, 1), (.dup, 1), (.getfield 257, 3), (.iconst 1, 1), (.iadd, 1), (.putfield 257, 3), (.return_, 1)] = true := by decide +kernel
theorem bX4_put_0 : Blk cX4_put 4 none false 0 [(.aload 0, 1), (.getstatic 258, 3), (.aload 0, 1), (.getfield 257, 3), (.iconst 4, 1), (.imul, 1), (.iload 1, 1), (.iadd, 1), (.iload 2, 1), (.iastore, 1), (.aload 0, 1), (.getstatic 259, 3), (.iload 1, 1), (.iconst 16, 2), (.imul, 1), (.iload 2, 1), (.iadd, 1), (.dup2, 1), (.iaload, 1), (.iconst 1, 1), (.iadd, 1), (.iastore, 1), (.return_, 1)] = true := by decide +kernel
theorem bX4_valueAt_0 : Blk cX4_valueAt 4 (some .int) false 0 [(.iload 1, 1), (.iconst 4, 1), (.imul, 1), (.iload 2, 1), (.iadd, 1), (.istore 3, 1), (.iload 3, 1), (.ifCond .lt 28, 3), (.iload 3, 1), (.aload 0, 1), (.getstatic 258, 3)] = true := by decide +kernel
theorem bX4_valueAt_16 : Blk cX4_valueAt 4 (some .int) false 16 [(.if_icmp .ge 28, 3), (.aload 0, 1), (.getstatic 258, 3), (.iload 3, 1), (.iaload, 1), (.goto 29, 3)] = true := by decide +kernel
theorem bX4_valueAt_28 : Blk cX4_valueAt 4 (some .int) false 28 [(.iconst 0, 1)] = true := by decide +kernel
theorem bX4_valueAt_29 : Blk cX4_valueAt 4 (some .int) false 29 [(.ireturn, 1)] = true := by decide +kernel
theorem bX4_rowsWith_0 : Blk cX4_rowsWith 4 (some .int) false 0 [(.iload 1, 1), (.iconst 16, 2), (.imul, 1), (.iload 2, 1), (.iadd, 1), (.istore 3, 1), (.iload 3, 1), (.ifCond .lt 29, 3), (.iload 3, 1), (.aload 0, 1), (.getstatic 259, 3)] = true := by decide +kernel
theorem bX4_rowsWith_17 : Blk cX4_rowsWith 4 (some .int) false 17 [(.if_icmp .ge 29, 3), (.aload 0, 1), (.getstatic 259, 3), (.iload 3, 1), (.iaload, 1), (.goto 30, 3)] = true := by decide +kernel
theorem bX4_rowsWith_29 : Blk cX4_rowsWith 4 (some .int) false 29 [(.iconst 0, 1)] = true := by decide +kernel
theorem bX4_rowsWith_30 : Blk cX4_rowsWith 4 (some .int) false 30 [(.ireturn, 1)] = true := by decide +kernel
theorem bX4_pages_0 : Blk cX4_pages 4 (some .int) false 0 [(.aload 0, 1), (.getfield 257, 3), (.iconst 8, 2), (.iadd, 1), (.iconst 1, 1), (.isub, 1), (.iconst 8, 2), (.idiv, 1), (.ireturn, 1)] = true := by decide +kernel
theorem bX4_canIndex_0 : Blk cX4_canIndex 4 (some .boolean) false 0 [(.aload 0, 1), (.iload 1, 1)] = true := by decide +kernel
theorem bX4_canIndex_5 : Blk cX4_canIndex 4 (some .boolean) false 5 [(.ifCond .ne 10, 3), (.iconst 0, 1), (.freturn, 1)] = true := by decide +kernel
theorem bX4_canIndex_10 : Blk cX4_canIndex 4 (some .boolean) false 10 [(.iload 2, 1), (.iconst (-1), 1), (.if_icmp .ne 26, 3), (.iload 3, 1), (.iconst (-1), 1), (.if_icmp .ne 24, 3), (.iconst 1, 1), (.goto 25, 3)] = true := by decide +kernel
theorem bX4_canIndex_24 : Blk cX4_canIndex 4 (some .boolean) false 24 [(.iconst 0, 1)] = true := by decide +kernel
theorem bX4_canIndex_25 : Blk cX4_canIndex 4 (some .boolean) false 25 [(.freturn, 1)] = true := by decide +kernel
theorem bX4_canIndex_26 : Blk cX4_canIndex 4 (some .boolean) false 26 [(.aload 0, 1), (.iload 2, 1)] = true := by decide +kernel
theorem bX4_canIndex_31 : Blk cX4_canIndex 4 (some .boolean) false 31 [(.ifCond .eq 66, 3), (.iload 2, 1), (.iload 1, 1), (.if_icmp .eq 66, 3), (.iload 3, 1), (.iconst (-1), 1), (.if_icmp .eq 62, 3), (.aload 0, 1), (.iload 3, 1)] = true := by decide +kernel
theorem bX4_canIndex_49 : Blk cX4_canIndex 4 (some .boolean) false 49 [(.ifCond .eq 66, 3), (.iload 3, 1), (.iload 1, 1), (.if_icmp .eq 66, 3), (.iload 3, 1), (.iload 2, 1), (.if_icmp .eq 66, 3)] = true := by decide +kernel
theorem bX4_canIndex_62 : Blk cX4_canIndex 4 (some .boolean) false 62 [(.iconst 1, 1), (.goto 67, 3)] = true := by decide +kernel
theorem bX4_canIndex_66 : Blk cX4_canIndex 4 (some .boolean) false 66 [(.iconst 0, 1)] = true := by decide +kernel
theorem bX4_canIndex_67 : Blk cX4_canIndex 4 (some .boolean) false 67 [(.freturn, 1)] = true := by decide +kernel
theorem bX5_init_0 : Blk cX5_init 5 none true 0 [(.aload 0, 1)] = true := by decide +kernel
theorem bX5_init_4 : Blk cX5_init 5 none true 4 [(.aload 0, 1), (.iconst 2000, 3)] = true := by decide +kernel
theorem bX5_init_10 : Blk cX5_init 5 none true 10 [(.putstatic 320, 3), (.aload 0, 1), (.iconst 0, 1), (.putfield 321, 3), (.return_, 1)] = true := by decide +kernel
theorem bX5_append_0 : Blk cX5_append 5 none false 0 [(.iconst 24, 2), (.istore 2, 1)] = true := by decide +kernel
theorem bX5_append_3 : Blk cX5_append 5 none false 3 [(.iload 2, 1), (.ifCond .lt 46, 3), (.aload 0, 1), (.getfield 321, 3), (.iconst 2000, 3), (.if_icmp .ge 46, 3), (.aload 0, 1), (.getstatic 320, 3), (.aload 0, 1), (.getfield 321, 3), (.iload 1, 1), (.iload 2, 1), (.ishr, 1), (.i2b, 1), (.bastore, 1), (.aload 0, 1), (.dup, 1), (.getfield 321, 3), (.iconst 1, 1), (.iadd, 1), (.putfield 321, 3), (.iinc 2 (-8), 3), (.goto 3, 3)] = true := by decide +kernel
theorem bX5_append_46 : Blk cX5_append 5 none false 46 [(.return_, 1)] = true := by decide +kernel
theorem bX6_init_0 : Blk cX6_init 6 none true 0 [(.aload 0, 1)] = true := by decide +kernel
theorem bX6_init_4 : Blk cX6_init 6 none true 4 [(.aload 0, 1), (.iconst 301, 3)] = true := by decide +kernel
theorem bX6_init_10 : Blk cX6_init 6 none true 10 [(.putstatic 384, 3), (.aload 0, 1), (.iconst 301, 3)] = true := by decide +kernel
theorem bX6_init_19 : Blk cX6_init 6 none true 19 [(.putstatic 385, 3), (.aload 0, 1), (.iconst 301, 3)] = true := by decide +kernel
theorem bX6_init_28 : Blk cX6_init 6 none true 28 [(.putstatic 386, 3), (.return_, 1)] = true := by decide +kernel
theorem bX6_scan_0 : Blk cX6_scan 6 none false 0 [(.iconst 0, 1), (.istore 2, 1), (.iconst 0, 1), (.istore 3, 1)] = true := by decide +kernel
theorem bX6_scan_4 : Blk cX6_scan 6 none false 4 [(.iload 3, 1), (.iconst 300, 3), (.if_icmp .gt 58, 3), (.aload 1, 1), (.iload 2, 1)] = true := by decide +kernel
theorem bX6_scan_16 : Blk cX6_scan 6 none false 16 [(.istore 2, 1), (.aload 0, 1), (.getstatic 385, 3), (.iload 3, 1), (.iload 2, 1), (.iastore, 1), (.aload 0, 1), (.aload 1, 1), (.iload 2, 1), (.iload 3, 1)] = true := by decide +kernel
theorem bX6_scan_31 : Blk cX6_scan 6 none false 31 [(.istore 2, 1), (.aload 0, 1), (.getstatic 384, 3), (.iload 3, 1), (.iaload, 1), (.ifCond .eq 51, 3), (.aload 0, 1), (.getstatic 384, 3), (.iload 3, 1), (.iaload, 1), (.iconst 1, 1), (.if_icmp .ne 52, 3)] = true := by decide +kernel
theorem bX6_scan_51 : Blk cX6_scan 6 none false 51 [(.return_, 1)] = true := by decide +kernel
theorem bX6_scan_52 : Blk cX6_scan 6 none false 52 [(.iinc 3 1, 3), (.goto 4, 3)] = true := by decide +kernel
theorem bX6_scan_58 : Blk cX6_scan 6 none false 58 [(.return_, 1)] = true := by decide +kernel
theorem bX6_skipBlanks_0 : Blk cX6_skipBlanks 6 (some .int) false 0 [(.iload 1, 1), (.istore 2, 1)] = true := by decide +kernel
theorem bX6_skipBlanks_2 : Blk cX6_skipBlanks 6 (some .int) false 2 [(.iload 2, 1), (.aload 0, 1), (.getfield 321, 3), (.if_icmp .ge 28, 3), (.aload 0, 1), (.getstatic 320, 3), (.iload 2, 1), (.baload, 1)] = true := by decide +kernel
theorem bX6_skipBlanks_19 : Blk cX6_skipBlanks 6 (some .int) false 19 [(.ifCond .eq 28, 3), (.iinc 2 1, 3), (.goto 2, 3)] = true := by decide +kernel
theorem bX6_skipBlanks_28 : Blk cX6_skipBlanks 6 (some .int) false 28 [(.iload 2, 1), (.ireturn, 1)] = true := by decide +kernel
theorem bX6_isBlank_0 : Blk cX6_isBlank 6 (some .boolean) false 0 [(.iload 0, 1), (.iconst 9, 2), (.if_icmp .eq 24, 3), (.iload 0, 1), (.iconst 10, 2), (.if_icmp .eq 24, 3), (.iload 0, 1), (.iconst 13, 2), (.if_icmp .eq 24, 3), (.iload 0, 1), (.iconst 32, 2), (.if_icmp .ne 28, 3)] = true := by decide +kernel
theorem bX6_isBlank_24 : Blk cX6_isBlank 6 (some .boolean) false 24 [(.iconst 1, 1), (.goto 29, 3)] = true := by decide +kernel
theorem bX6_isBlank_28 : Blk cX6_isBlank 6 (some .boolean) false 28 [(.iconst 0, 1)] = true := by decide +kernel
theorem bX6_isBlank_29 : Blk cX6_isBlank 6 (some .boolean) false 29 [(.freturn, 1)] = true := by decide +kernel
theorem bX6_isLetter_0 : Blk cX6_isLetter 6 (some .boolean) false 0 [(.iload 0, 1), (.iconst 97, 2), (.if_icmp .lt 16, 3), (.iload 0, 1), (.iconst 122, 2), (.if_icmp .gt 16, 3), (.iconst 1, 1), (.goto 17, 3)] = true := by decide +kernel
theorem bX6_isLetter_16 : Blk cX6_isLetter 6 (some .boolean) false 16 [(.iconst 0, 1)] = true := by decide +kernel
theorem bX6_isLetter_17 : Blk cX6_isLetter 6 (some .boolean) false 17 [(.freturn, 1)] = true := by decide +kernel
theorem bX6_isDigit_0 : Blk cX6_isDigit 6 (some .boolean) false 0 [(.iload 0, 1), (.iconst 48, 2), (.if_icmp .lt 16, 3), (.iload 0, 1), (.iconst 57, 2), (.if_icmp .gt 16, 3), (.iconst 1, 1), (.goto 17, 3)] = true := by decide +kernel
theorem bX6_isDigit_16 : Blk cX6_isDigit 6 (some .boolean) false 16 [(.iconst 0, 1)] = true := by decide +kernel
theorem bX6_isDigit_17 : Blk cX6_isDigit 6 (some .boolean) false 17 [(.freturn, 1)] = true := by decide +kernel
theorem bX6_scanToken_0 : Blk cX6_scanToken 6 (some .int) false 0 [(.iload 2, 1), (.aload 1, 1), (.getfield 321, 3), (.if_icmp .lt 17, 3), (.aload 0, 1), (.getstatic 384, 3), (.iload 3, 1), (.iconst 0, 1), (.iastore, 1), (.iload 2, 1), (.ireturn, 1)] = true := by decide +kernel
theorem bX6_scanToken_17 : Blk cX6_scanToken 6 (some .int) false 17 [(.aload 1, 1), (.getstatic 320, 3), (.iload 2, 1), (.baload, 1)] = true := by decide +kernel
theorem bX6_scanToken_26 : Blk cX6_scanToken 6 (some .int) false 26 [(.ifCond .eq 37, 3), (.aload 0, 1), (.aload 1, 1), (.iload 2, 1), (.iload 3, 1)] = true := by decide +kernel
theorem bX6_scanToken_36 : Blk cX6_scanToken 6 (some .int) false 36 [(.ireturn, 1)] = true := by decide +kernel
theorem bX6_scanToken_37 : Blk cX6_scanToken 6 (some .int) false 37 [(.aload 1, 1), (.getstatic 320, 3), (.iload 2, 1), (.baload, 1)] = true := by decide +kernel
theorem bX6_scanToken_46 : Blk cX6_scanToken 6 (some .int) false 46 [(.ifCond .eq 57, 3), (.aload 0, 1), (.aload 1, 1), (.iload 2, 1), (.iload 3, 1)] = true := by decide +kernel
theorem bX6_scanToken_56 : Blk cX6_scanToken 6 (some .int) false 56 [(.ireturn, 1)] = true := by decide +kernel
theorem bX6_scanToken_57 : Blk cX6_scanToken 6 (some .int) false 57 [(.aload 0, 1), (.aload 1, 1), (.iload 2, 1), (.iload 3, 1)] = true := by decide +kernel
theorem bX6_scanToken_64 : Blk cX6_scanToken 6 (some .int) false 64 [(.ireturn, 1)] = true := by decide +kernel
theorem bX6_scanWord_0 : Blk cX6_scanWord 6 (some .int) false 0 [(.iload 2, 1), (.istore 4, 2)] = true := by decide +kernel
theorem bX6_scanWord_3 : Blk cX6_scanWord 6 (some .int) false 3 [(.iload 4, 2), (.aload 1, 1), (.getfield 321, 3), (.if_icmp .ge 31, 3), (.aload 1, 1), (.getstatic 320, 3), (.iload 4, 2), (.baload, 1)] = true := by decide +kernel
theorem bX6_scanWord_22 : Blk cX6_scanWord 6 (some .int) false 22 [(.ifCond .eq 31, 3), (.iinc 4 1, 3), (.goto 3, 3)] = true := by decide +kernel
theorem bX6_scanWord_31 : Blk cX6_scanWord 6 (some .int) false 31 [(.aload 0, 1), (.getstatic 384, 3), (.iload 3, 1), (.iload 4, 2), (.iload 2, 1), (.isub, 1), (.iconst 8, 2), (.if_icmp .le 49, 3), (.iconst 1, 1), (.goto 56, 3)] = true := by decide +kernel
theorem bX6_scanWord_49 : Blk cX6_scanWord 6 (some .int) false 49 [(.aload 1, 1), (.iload 2, 1), (.iload 4, 2)] = true := by decide +kernel
theorem bX6_scanWord_56 : Blk cX6_scanWord 6 (some .int) false 56 [(.iastore, 1), (.iload 4, 2), (.ireturn, 1)] = true := by decide +kernel
theorem bX6_scanInt_0 : Blk cX6_scanInt 6 (some .int) false 0 [(.iload 2, 1), (.istore 4, 2), (.iconst 0, 1), (.istore 5, 2)] = true := by decide +kernel
theorem bX6_scanInt_6 : Blk cX6_scanInt 6 (some .int) false 6 [(.iload 4, 2), (.aload 1, 1), (.getfield 321, 3), (.if_icmp .ge 52, 3), (.aload 1, 1), (.getstatic 320, 3), (.iload 4, 2), (.baload, 1)] = true := by decide +kernel
theorem bX6_scanInt_25 : Blk cX6_scanInt 6 (some .int) false 25 [(.ifCond .eq 52, 3), (.iload 5, 2), (.iconst 10, 2), (.imul, 1), (.aload 1, 1), (.getstatic 320, 3), (.iload 4, 2), (.baload, 1), (.iadd, 1), (.iconst 48, 2), (.isub, 1), (.istore 5, 2), (.iinc 4 1, 3), (.goto 6, 3)] = true := by decide +kernel
theorem bX6_scanInt_52 : Blk cX6_scanInt 6 (some .int) false 52 [(.aload 0, 1), (.getstatic 384, 3), (.iload 3, 1), (.iload 4, 2), (.iload 2, 1), (.isub, 1), (.iconst 4, 1), (.if_icmp .le 69, 3), (.iconst 1, 1), (.goto 70, 3)] = true := by decide +kernel
theorem bX6_scanInt_69 : Blk cX6_scanInt 6 (some .int) false 69 [(.iconst 2, 1)] = true := by decide +kernel
theorem bX6_scanInt_70 : Blk cX6_scanInt 6 (some .int) false 70 [(.iastore, 1), (.aload 0, 1), (.getstatic 386, 3), (.iload 3, 1), (.iload 5, 2), (.iastore, 1), (.iload 4, 2), (.ireturn, 1)] = true := by decide +kernel
theorem bX6_scanSign_0 : Blk cX6_scanSign 6 (some .int) false 0 [(.aload 1, 1), (.getstatic 320, 3), (.iload 2, 1), (.baload, 1), (.istore 4, 2), (.iload 4, 2), (.iconst 61, 2), (.if_icmp .ne 49, 3), (.iload 2, 1), (.iconst 1, 1), (.iadd, 1), (.aload 1, 1), (.getfield 321, 3), (.if_icmp .ge 49, 3), (.aload 1, 1), (.getstatic 320, 3), (.iload 2, 1), (.iconst 1, 1), (.iadd, 1), (.baload, 1), (.iconst 61, 2), (.if_icmp .ne 49, 3), (.aload 0, 1), (.getstatic 384, 3), (.iload 3, 1), (.iconst 4, 1), (.iastore, 1), (.iload 2, 1), (.iconst 2, 1), (.iadd, 1), (.ireturn, 1)] = true := by decide +kernel
theorem bX6_scanSign_49 : Blk cX6_scanSign 6 (some .int) false 49 [(.aload 0, 1), (.getstatic 384, 3), (.iload 3, 1), (.iload 4, 2), (.iconst 59, 2), (.if_icmp .ne 65, 3), (.iconst 3, 1), (.goto 89, 3)] = true := by decide +kernel
theorem bX6_scanSign_65 : Blk cX6_scanSign 6 (some .int) false 65 [(.iload 4, 2), (.iconst 60, 2), (.if_icmp .ne 76, 3), (.iconst 5, 1), (.goto 89, 3)] = true := by decide +kernel
theorem bX6_scanSign_76 : Blk cX6_scanSign 6 (some .int) false 76 [(.iload 4, 2), (.iconst 61, 2), (.if_icmp .ne 88, 3), (.iconst 6, 2), (.goto 89, 3)] = true := by decide +kernel
theorem bX6_scanSign_88 : Blk cX6_scanSign 6 (some .int) false 88 [(.iconst 1, 1)] = true := by decide +kernel
theorem bX6_scanSign_89 : Blk cX6_scanSign 6 (some .int) false 89 [(.iastore, 1), (.iload 2, 1), (.iconst 1, 1), (.iadd, 1), (.ireturn, 1)] = true := by decide +kernel
theorem bX6_wordKind_0 : Blk cX6_wordKind 6 (some .int) false 0 [(.aload 0, 1), (.iload 1, 1), (.iload 2, 1)] = true := by decide +kernel
theorem bX6_wordKind_8 : Blk cX6_wordKind 6 (some .int) false 8 [(.ifCond .eq 14, 3), (.iconst 7, 2), (.ireturn, 1)] = true := by decide +kernel
theorem bX6_wordKind_14 : Blk cX6_wordKind 6 (some .int) false 14 [(.aload 0, 1), (.iload 1, 1), (.iload 2, 1)] = true := by decide +kernel
theorem bX6_wordKind_22 : Blk cX6_wordKind 6 (some .int) false 22 [(.ifCond .eq 28, 3), (.iconst 8, 2), (.ireturn, 1)] = true := by decide +kernel
theorem bX6_wordKind_28 : Blk cX6_wordKind 6 (some .int) false 28 [(.aload 0, 1), (.iload 1, 1), (.iload 2, 1)] = true := by decide +kernel
theorem bX6_wordKind_36 : Blk cX6_wordKind 6 (some .int) false 36 [(.ifCond .eq 42, 3), (.iconst 9, 2), (.ireturn, 1)] = true := by decide +kernel
theorem bX6_wordKind_42 : Blk cX6_wordKind 6 (some .int) false 42 [(.aload 0, 1), (.iload 1, 1), (.iload 2, 1)] = true := by decide +kernel
theorem bX6_wordKind_50 : Blk cX6_wordKind 6 (some .int) false 50 [(.ifCond .eq 56, 3), (.iconst 10, 2), (.ireturn, 1)] = true := by decide +kernel
theorem bX6_wordKind_56 : Blk cX6_wordKind 6 (some .int) false 56 [(.aload 0, 1), (.iload 1, 1), (.iload 2, 1)] = true := by decide +kernel
theorem bX6_wordKind_64 : Blk cX6_wordKind 6 (some .int) false 64 [(.ifCond .eq 70, 3), (.iconst 11, 2), (.ireturn, 1)] = true := by decide +kernel
theorem bX6_wordKind_70 : Blk cX6_wordKind 6 (some .int) false 70 [(.aload 0, 1), (.iload 1, 1), (.iload 2, 1)] = true := by decide +kernel
theorem bX6_wordKind_78 : Blk cX6_wordKind 6 (some .int) false 78 [(.ifCond .eq 84, 3), (.iconst 12, 2), (.ireturn, 1)] = true := by decide +kernel
theorem bX6_wordKind_84 : Blk cX6_wordKind 6 (some .int) false 84 [(.aload 0, 1), (.iload 1, 1), (.iload 2, 1)] = true := by decide +kernel
theorem bX6_wordKind_92 : Blk cX6_wordKind 6 (some .int) false 92 [(.ifCond .eq 98, 3), (.iconst 13, 2), (.ireturn, 1)] = true := by decide +kernel
theorem bX6_wordKind_98 : Blk cX6_wordKind 6 (some .int) false 98 [(.aload 0, 1), (.iload 1, 1), (.iload 2, 1)] = true := by decide +kernel
theorem bX6_wordKind_106 : Blk cX6_wordKind 6 (some .int) false 106 [(.ifCond .eq 112, 3), (.iconst 14, 2), (.ireturn, 1)] = true := by decide +kernel
theorem bX6_wordKind_112 : Blk cX6_wordKind 6 (some .int) false 112 [(.aload 0, 1), (.iload 1, 1), (.iload 2, 1)] = true := by decide +kernel
theorem bX6_wordKind_120 : Blk cX6_wordKind 6 (some .int) false 120 [(.ifCond .eq 126, 3), (.iconst 15, 2), (.ireturn, 1)] = true := by decide +kernel
theorem bX6_wordKind_126 : Blk cX6_wordKind 6 (some .int) false 126 [(.aload 0, 1), (.iload 1, 1), (.iload 2, 1)] = true := by decide +kernel
theorem bX6_wordKind_134 : Blk cX6_wordKind 6 (some .int) false 134 [(.ifCond .eq 140, 3), (.iconst 16, 2), (.ireturn, 1)] = true := by decide +kernel
theorem bX6_wordKind_140 : Blk cX6_wordKind 6 (some .int) false 140 [(.aload 0, 1), (.iload 1, 1), (.iload 2, 1)] = true := by decide +kernel
theorem bX6_wordKind_148 : Blk cX6_wordKind 6 (some .int) false 148 [(.ifCond .eq 154, 3), (.iconst 17, 2), (.ireturn, 1)] = true := by decide +kernel
theorem bX6_wordKind_154 : Blk cX6_wordKind 6 (some .int) false 154 [(.iconst 1, 1), (.ireturn, 1)] = true := by decide +kernel
theorem bX6_spells_0 : Blk cX6_spells 6 (some .boolean) false 0 [(.iload 2, 1), (.iload 1, 1), (.isub, 1), (.aload 3, 1)] = true := by decide +kernel
theorem bX6_spells_7 : Blk cX6_spells 6 (some .boolean) false 7 [(.if_icmp .eq 12, 3), (.iconst 0, 1), (.freturn, 1)] = true := by decide +kernel
theorem bX6_spells_12 : Blk cX6_spells 6 (some .boolean) false 12 [(.iconst 0, 1), (.istore 4, 2)] = true := by decide +kernel
theorem bX6_spells_15 : Blk cX6_spells 6 (some .boolean) false 15 [(.iload 4, 2), (.aload 3, 1)] = true := by decide +kernel
theorem bX6_spells_21 : Blk cX6_spells 6 (some .boolean) false 21 [(.if_icmp .ge 50, 3), (.aload 0, 1), (.getstatic 320, 3), (.iload 1, 1), (.iload 4, 2), (.iadd, 1), (.baload, 1), (.aload 3, 1), (.iload 4, 2)] = true := by decide +kernel
theorem bX6_spells_39 : Blk cX6_spells 6 (some .boolean) false 39 [(.if_icmp .eq 44, 3), (.iconst 0, 1), (.freturn, 1)] = true := by decide +kernel
theorem bX6_spells_44 : Blk cX6_spells 6 (some .boolean) false 44 [(.iinc 4 1, 3), (.goto 15, 3)] = true := by decide +kernel
theorem bX6_spells_50 : Blk cX6_spells 6 (some .boolean) false 50 [(.iconst 1, 1), (.freturn, 1)] = true := by decide +kernel
theorem bX7_init_0 : Blk cX7_init 7 none true 0 [(.aload 0, 1)] = true := by decide +kernel
theorem bX7_init_4 : Blk cX7_init 7 none true 4 [(.aload 0, 1), (.iconst 4, 1)] = true := by decide +kernel
theorem bX7_init_9 : Blk cX7_init 7 none true 9 [(.putstatic 448, 3), (.aload 0, 1), (.iconst 0, 1), (.putfield 449, 3), (.aload 0, 1), (.iconst 8, 2)] = true := by decide +kernel
theorem bX7_init_23 : Blk cX7_init 7 none true 23 [(.putstatic 450, 3), (.aload 0, 1), (.iconst 0, 1), (.putfield 451, 3), (.aload 0, 1)] = true := by decide +kernel
theorem bX7_init_35 : Blk cX7_init 7 none true 35 [(.dup, 1)] = true := by decide +kernel
theorem bX7_init_39 : Blk cX7_init 7 none true 39 [(.putstatic 452, 3), (.aload 0, 1)] = true := by decide +kernel
theorem bX7_init_46 : Blk cX7_init 7 none true 46 [(.dup, 1)] = true := by decide +kernel
theorem bX7_init_50 : Blk cX7_init 7 none true 50 [(.putstatic 453, 3), (.aload 0, 1), (.iconst 8, 2)] = true := by decide +kernel
theorem bX7_init_59 : Blk cX7_init 7 none true 59 [(.putstatic 454, 3), (.aload 0, 1), (.iconst 0, 1), (.putfield 455, 3), (.aload 0, 1), (.iconst 8, 2)] = true := by decide +kernel
theorem bX7_init_73 : Blk cX7_init 7 none true 73 [(.putstatic 456, 3), (.aload 0, 1), (.iconst 8, 2)] = true := by decide +kernel
theorem bX7_init_81 : Blk cX7_init 7 none true 81 [(.putstatic 457, 3), (.aload 0, 1), (.iconst 0, 1), (.putfield 458, 3), (.aload 0, 1), (.iconst 8, 2)] = true := by decide +kernel
theorem bX7_init_94 : Blk cX7_init 7 none true 94 [(.putstatic 459, 3), (.aload 0, 1), (.iconst 0, 1), (.putfield 460, 3), (.aload 0, 1), (.iconst 0, 1), (.putfield 461, 3), (.aload 0, 1), (.iconst (-1), 1), (.putfield 462, 3), (.iconst 0, 1), (.istore 1, 1)] = true := by decide +kernel
theorem bX7_init_114 : Blk cX7_init 7 none true 114 [(.iload 1, 1), (.iconst 4, 1), (.if_icmp .ge 138, 3), (.aload 0, 1), (.getstatic 448, 3), (.iload 1, 1)] = true := by decide +kernel
theorem bX7_init_127 : Blk cX7_init 7 none true 127 [(.dup, 1)] = true := by decide +kernel
theorem bX7_init_131 : Blk cX7_init 7 none true 131 [(.aastore, 1), (.iinc 1 1, 3), (.goto 114, 3)] = true := by decide +kernel
theorem bX7_init_138 : Blk cX7_init 7 none true 138 [(.iconst 0, 1), (.istore 1, 1)] = true := by decide +kernel
theorem bX7_init_140 : Blk cX7_init 7 none true 140 [(.iload 1, 1), (.iconst 8, 2), (.if_icmp .ge 165, 3), (.aload 0, 1), (.getstatic 450, 3), (.iload 1, 1)] = true := by decide +kernel
theorem bX7_init_154 : Blk cX7_init 7 none true 154 [(.dup, 1)] = true := by decide +kernel
theorem bX7_init_158 : Blk cX7_init 7 none true 158 [(.aastore, 1), (.iinc 1 1, 3), (.goto 140, 3)] = true := by decide +kernel
theorem bX7_init_165 : Blk cX7_init 7 none true 165 [(.iconst 0, 1), (.istore 1, 1)] = true := by decide +kernel
theorem bX7_init_167 : Blk cX7_init 7 none true 167 [(.iload 1, 1), (.iconst 8, 2), (.if_icmp .ge 205, 3), (.aload 0, 1), (.getstatic 454, 3), (.iload 1, 1)] = true := by decide +kernel
theorem bX7_init_181 : Blk cX7_init 7 none true 181 [(.dup, 1)] = true := by decide +kernel
theorem bX7_init_185 : Blk cX7_init 7 none true 185 [(.aastore, 1), (.aload 0, 1), (.getstatic 456, 3), (.iload 1, 1)] = true := by decide +kernel
theorem bX7_init_194 : Blk cX7_init 7 none true 194 [(.dup, 1)] = true := by decide +kernel
theorem bX7_init_198 : Blk cX7_init 7 none true 198 [(.aastore, 1), (.iinc 1 1, 3), (.goto 167, 3)] = true := by decide +kernel
theorem bX7_init_205 : Blk cX7_init 7 none true 205 [(.return_, 1)] = true := by decide +kernel
theorem bX7_feed_0 : Blk cX7_feed 7 (some .int) false 0 [(.aload 0, 1), (.getstatic 452, 3), (.getfield 321, 3), (.iconst 20, 2), (.iadd, 1), (.iconst 2000, 3), (.if_icmp .le 18, 3), (.iconst (-1), 1), (.ireturn, 1)] = true := by decide +kernel
theorem bX7_feed_18 : Blk cX7_feed 7 (some .int) false 18 [(.aload 0, 1), (.getstatic 452, 3), (.iload 1, 1)] = true := by decide +kernel
theorem bX7_feed_26 : Blk cX7_feed 7 (some .int) false 26 [(.aload 0, 1), (.getstatic 452, 3), (.iload 2, 1)] = true := by decide +kernel
theorem bX7_feed_34 : Blk cX7_feed 7 (some .int) false 34 [(.aload 0, 1), (.getstatic 452, 3), (.iload 3, 1)] = true := by decide +kernel
theorem bX7_feed_42 : Blk cX7_feed 7 (some .int) false 42 [(.aload 0, 1), (.getstatic 452, 3), (.iload 4, 2)] = true := by decide +kernel
theorem bX7_feed_51 : Blk cX7_feed 7 (some .int) false 51 [(.aload 0, 1), (.getstatic 452, 3), (.iload 5, 2)] = true := by decide +kernel
theorem bX7_feed_60 : Blk cX7_feed 7 (some .int) false 60 [(.aload 0, 1), (.getstatic 452, 3), (.getfield 321, 3), (.ireturn, 1)] = true := by decide +kernel
theorem bX7_back_0 : Blk cX7_back 7 (some .int) false 0 [(.iload 1, 1), (.ifCond .lt 15, 3), (.iload 1, 1), (.aload 0, 1), (.getstatic 452, 3), (.getfield 321, 3), (.if_icmp .le 17, 3)] = true := by decide +kernel
theorem bX7_back_15 : Blk cX7_back 7 (some .int) false 15 [(.iconst (-1), 1), (.ireturn, 1)] = true := by decide +kernel
theorem bX7_back_17 : Blk cX7_back 7 (some .int) false 17 [(.aload 0, 1), (.getstatic 452, 3), (.dup, 1), (.getfield 321, 3), (.iload 1, 1), (.isub, 1), (.putfield 321, 3), (.aload 0, 1), (.getstatic 452, 3), (.getfield 321, 3), (.ireturn, 1)] = true := by decide +kernel
theorem bX7_read_0 : Blk cX7_read 7 (some .int) false 0 [(.aload 0, 1), (.getstatic 453, 3), (.aload 0, 1), (.getstatic 452, 3)] = true := by decide +kernel
theorem bX7_read_11 : Blk cX7_read 7 (some .int) false 11 [(.aload 0, 1), (.getstatic 452, 3), (.iconst 0, 1), (.putfield 321, 3), (.aload 0, 1), (.aload 0, 1), (.getstatic 453, 3), (.getfield 134, 3), (.putfield 462, 3), (.aload 0, 1), (.getstatic 453, 3), (.getfield 133, 3), (.ifCond .ne 70, 3), (.aload 0, 1), (.aload 0, 1), (.getstatic 453, 3), (.aload 0, 1), (.getstatic 454, 3)] = true := by decide +kernel
theorem bX7_read_52 : Blk cX7_read 7 (some .int) false 52 [(.putstatic 454, 3), (.aload 0, 1), (.aload 0, 1), (.getstatic 453, 3), (.getfield 132, 3), (.putfield 455, 3), (.aload 0, 1)] = true := by decide +kernel
theorem bX7_read_70 : Blk cX7_read 7 (some .int) false 70 [(.aload 0, 1), (.getstatic 453, 3), (.getfield 133, 3), (.ireturn, 1)] = true := by decide +kernel
theorem bX7_place_0 : Blk cX7_place 7 (some .int) false 0 [(.aload 0, 1), (.getfield 462, 3), (.ireturn, 1)] = true := by decide +kernel
theorem bX7_table_0 : Blk cX7_table 7 (some .int) false 0 [(.aload 0, 1), (.getfield 449, 3), (.iconst 4, 1), (.if_icmp .ge 18, 3), (.iload 1, 1), (.iconst 1, 1), (.if_icmp .lt 18, 3), (.iload 1, 1), (.iconst 4, 1), (.if_icmp .le 20, 3)] = true := by decide +kernel
theorem bX7_table_18 : Blk cX7_table 7 (some .int) false 18 [(.iconst (-1), 1), (.ireturn, 1)] = true := by decide +kernel
theorem bX7_table_20 : Blk cX7_table 7 (some .int) false 20 [(.aload 0, 1), (.getfield 449, 3), (.istore 2, 1), (.aload 0, 1), (.getstatic 448, 3), (.iload 2, 1), (.aaload, 1), (.iload 1, 1), (.putfield 256, 3), (.aload 0, 1), (.getstatic 453, 3), (.getstatic 128, 3), (.iload 2, 1), (.iload 1, 1), (.iastore, 1), (.aload 0, 1), (.dup, 1), (.getfield 449, 3), (.iconst 1, 1), (.iadd, 1), (.putfield 449, 3), (.iload 2, 1), (.ireturn, 1)] = true := by decide +kernel
theorem bX7_row_0 : Blk cX7_row 7 (some .int) false 0 [(.aload 0, 1), (.iload 1, 1)] = true := by decide +kernel
theorem bX7_row_5 : Blk cX7_row 7 (some .int) false 5 [(.ifCond .ne 10, 3), (.iconst (-1), 1), (.ireturn, 1)] = true := by decide +kernel
theorem bX7_row_10 : Blk cX7_row 7 (some .int) false 10 [(.aload 0, 1), (.getstatic 448, 3), (.iload 1, 1), (.aaload, 1), (.astore 6, 2), (.aload 6, 2), (.getfield 257, 3), (.iconst 64, 2), (.if_icmp .ge 70, 3), (.aload 6, 2), (.iconst 0, 1), (.iload 2, 1)] = true := by decide +kernel
theorem bX7_row_35 : Blk cX7_row 7 (some .int) false 35 [(.ifCond .eq 70, 3), (.aload 6, 2), (.iconst 1, 1), (.iload 3, 1)] = true := by decide +kernel
theorem bX7_row_45 : Blk cX7_row 7 (some .int) false 45 [(.ifCond .eq 70, 3), (.aload 6, 2), (.iconst 2, 1), (.iload 4, 2)] = true := by decide +kernel
theorem bX7_row_56 : Blk cX7_row 7 (some .int) false 56 [(.ifCond .eq 70, 3), (.aload 6, 2), (.iconst 3, 1), (.iload 5, 2)] = true := by decide +kernel
theorem bX7_row_67 : Blk cX7_row 7 (some .int) false 67 [(.ifCond .ne 72, 3)] = true := by decide +kernel
theorem bX7_row_70 : Blk cX7_row 7 (some .int) false 70 [(.iconst (-1), 1), (.ireturn, 1)] = true := by decide +kernel
theorem bX7_row_72 : Blk cX7_row 7 (some .int) false 72 [(.aload 6, 2), (.iload 2, 1), (.iload 3, 1), (.iload 4, 2), (.iload 5, 2)] = true := by decide +kernel
theorem bX7_row_83 : Blk cX7_row 7 (some .int) false 83 [(.aload 0, 1)] = true := by decide +kernel
theorem bX7_row_87 : Blk cX7_row 7 (some .int) false 87 [(.aload 6, 2), (.getfield 257, 3), (.ireturn, 1)] = true := by decide +kernel
theorem bX7_room_0 : Blk cX7_room 7 (some .boolean) false 0 [(.iload 1, 1), (.ifCond .lt 11, 3), (.iload 1, 1), (.iconst 255, 3), (.if_icmp .le 13, 3)] = true := by decide +kernel
theorem bX7_room_11 : Blk cX7_room 7 (some .boolean) false 11 [(.iconst 0, 1), (.freturn, 1)] = true := by decide +kernel
theorem bX7_room_13 : Blk cX7_room 7 (some .boolean) false 13 [(.aload 0, 1), (.iload 1, 1), (.putfield 460, 3), (.iconst 1, 1), (.freturn, 1)] = true := by decide +kernel
theorem bX7_budget_0 : Blk cX7_budget 7 (some .boolean) false 0 [(.iload 1, 1), (.ifCond .lt 11, 3), (.iload 1, 1), (.iconst 800, 3), (.if_icmp .le 13, 3)] = true := by decide +kernel
theorem bX7_budget_11 : Blk cX7_budget 7 (some .boolean) false 11 [(.iconst 0, 1), (.freturn, 1)] = true := by decide +kernel
theorem bX7_budget_13 : Blk cX7_budget 7 (some .boolean) false 13 [(.aload 0, 1), (.iload 1, 1), (.putfield 461, 3), (.iconst 1, 1), (.freturn, 1)] = true := by decide +kernel
theorem bX7_index_0 : Blk cX7_index 7 (some .int) false 0 [(.aload 0, 1), (.getfield 451, 3), (.iconst 8, 2), (.if_icmp .ge 41, 3), (.aload 0, 1), (.iload 1, 1)] = true := by decide +kernel
theorem bX7_index_14 : Blk cX7_index 7 (some .int) false 14 [(.ifCond .eq 41, 3), (.iload 5, 2)] = true := by decide +kernel
theorem bX7_index_22 : Blk cX7_index 7 (some .int) false 22 [(.ifCond .eq 41, 3), (.aload 0, 1), (.getstatic 448, 3), (.iload 1, 1), (.aaload, 1), (.iload 2, 1), (.iload 3, 1), (.iload 4, 2)] = true := by decide +kernel
theorem bX7_index_38 : Blk cX7_index 7 (some .int) false 38 [(.ifCond .ne 43, 3)] = true := by decide +kernel
theorem bX7_index_41 : Blk cX7_index 7 (some .int) false 41 [(.iconst (-1), 1), (.ireturn, 1)] = true := by decide +kernel
theorem bX7_index_43 : Blk cX7_index 7 (some .int) false 43 [(.aload 0, 1), (.getstatic 450, 3), (.aload 0, 1), (.getfield 451, 3), (.aaload, 1), (.iload 1, 1), (.iload 2, 1), (.iload 3, 1), (.iload 4, 2), (.iload 5, 2)] = true := by decide +kernel
theorem bX7_index_62 : Blk cX7_index 7 (some .int) false 62 [(.aload 0, 1)] = true := by decide +kernel
theorem bX7_index_66 : Blk cX7_index 7 (some .int) false 66 [(.ireturn, 1)] = true := by decide +kernel
theorem bX7_more_0 : Blk cX7_more 7 (some .int) false 0 [(.aload 0, 1), (.getfield 451, 3), (.iconst 8, 2), (.if_icmp .ge 27, 3), (.iload 1, 1), (.iconst 1, 1), (.if_icmp .lt 27, 3), (.iload 1, 1), (.iconst 64, 2), (.if_icmp .gt 27, 3), (.iload 2, 1)] = true := by decide +kernel
theorem bX7_more_24 : Blk cX7_more 7 (some .int) false 24 [(.ifCond .ne 29, 3)] = true := by decide +kernel
theorem bX7_more_27 : Blk cX7_more 7 (some .int) false 27 [(.iconst (-1), 1), (.ireturn, 1)] = true := by decide +kernel
theorem bX7_more_29 : Blk cX7_more 7 (some .int) false 29 [(.aload 0, 1), (.getstatic 450, 3), (.aload 0, 1), (.getfield 451, 3), (.aaload, 1), (.iload 1, 1), (.iload 2, 1)] = true := by decide +kernel
theorem bX7_more_43 : Blk cX7_more 7 (some .int) false 43 [(.aload 0, 1)] = true := by decide +kernel
theorem bX7_more_47 : Blk cX7_more 7 (some .int) false 47 [(.ireturn, 1)] = true := by decide +kernel
theorem bX7_cost_0 : Blk cX7_cost 7 (some .int) false 0 [(.aload 0, 1), (.iload 1, 1)] = true := by decide +kernel
theorem bX7_cost_5 : Blk cX7_cost 7 (some .int) false 5 [(.ifCond .eq 16, 3), (.aload 0, 1), (.iload 1, 1)] = true := by decide +kernel
theorem bX7_cost_13 : Blk cX7_cost 7 (some .int) false 13 [(.goto 17, 3)] = true := by decide +kernel
theorem bX7_cost_16 : Blk cX7_cost 7 (some .int) false 16 [(.iconst (-1), 1)] = true := by decide +kernel
theorem bX7_cost_17 : Blk cX7_cost 7 (some .int) false 17 [(.ireturn, 1)] = true := by decide +kernel
theorem bX7_deed_0 : Blk cX7_deed 7 (some .int) false 0 [(.aload 0, 1), (.iload 1, 1)] = true := by decide +kernel
theorem bX7_deed_5 : Blk cX7_deed 7 (some .int) false 5 [(.ifCond .eq 16, 3), (.aload 0, 1), (.iload 2, 1)] = true := by decide +kernel
theorem bX7_deed_13 : Blk cX7_deed 7 (some .int) false 13 [(.ifCond .ne 18, 3)] = true := by decide +kernel
theorem bX7_deed_16 : Blk cX7_deed 7 (some .int) false 16 [(.iconst (-1), 1), (.ireturn, 1)] = true := by decide +kernel
theorem bX7_deed_18 : Blk cX7_deed 7 (some .int) false 18 [(.aload 0, 1), (.getstatic 456, 3), (.iload 1, 1), (.aaload, 1), (.iload 2, 1), (.aload 0, 1), (.iload 2, 1)] = true := by decide +kernel
theorem bX7_deed_33 : Blk cX7_deed 7 (some .int) false 33 [(.ireturn, 1)] = true := by decide +kernel
theorem bX7_way_0 : Blk cX7_way 7 (some .int) false 0 [(.aload 0, 1), (.iload 1, 1)] = true := by decide +kernel
theorem bX7_way_5 : Blk cX7_way 7 (some .int) false 5 [(.ifCond .eq 25, 3), (.aload 0, 1), (.iload 2, 1)] = true := by decide +kernel
theorem bX7_way_13 : Blk cX7_way 7 (some .int) false 13 [(.ifCond .eq 25, 3), (.iload 3, 1), (.ifCond .lt 25, 3), (.iload 3, 1), (.iconst 4, 1), (.if_icmp .le 28, 3)] = true := by decide +kernel
theorem bX7_way_25 : Blk cX7_way 7 (some .int) false 25 [(.iconst (-3), 2), (.ireturn, 1)] = true := by decide +kernel
theorem bX7_way_28 : Blk cX7_way 7 (some .int) false 28 [(.aload 0, 1), (.getstatic 456, 3), (.iload 1, 1), (.aaload, 1), (.astore 4, 2), (.aload 4, 2), (.getfield 192, 3), (.ifCond .eq 47, 3), (.iconst (-2), 2), (.ireturn, 1)] = true := by decide +kernel
theorem bX7_way_47 : Blk cX7_way 7 (some .int) false 47 [(.aload 4, 2), (.iload 2, 1), (.aload 0, 1), (.iload 2, 1)] = true := by decide +kernel
theorem bX7_way_58 : Blk cX7_way 7 (some .int) false 58 [(.pop, 1), (.iload 3, 1)] = true := by decide +kernel
theorem bX7_way_92 : Blk cX7_way 7 (some .int) false 92 [(.aload 4, 2), (.getfield 205, 3), (.goto 129, 3)] = true := by decide +kernel
theorem bX7_way_100 : Blk cX7_way 7 (some .int) false 100 [(.aload 4, 2), (.getfield 195, 3), (.goto 129, 3)] = true := by decide +kernel
theorem bX7_way_108 : Blk cX7_way 7 (some .int) false 108 [(.aload 4, 2), (.getfield 207, 3), (.goto 129, 3)] = true := by decide +kernel
theorem bX7_way_116 : Blk cX7_way 7 (some .int) false 116 [(.aload 4, 2), (.getfield 208, 3), (.goto 129, 3)] = true := by decide +kernel
theorem bX7_way_124 : Blk cX7_way 7 (some .int) false 124 [(.aload 4, 2), (.getfield 209, 3)] = true := by decide +kernel
theorem bX7_way_129 : Blk cX7_way 7 (some .int) false 129 [(.ireturn, 1)] = true := by decide +kernel
theorem bX7_best_0 : Blk cX7_best 7 (some .int) false 0 [(.aload 0, 1)] = true := by decide +kernel
theorem bX7_best_4 : Blk cX7_best 7 (some .int) false 4 [(.ireturn, 1)] = true := by decide +kernel
theorem bX7_play_0 : Blk cX7_play 7 (some .int) false 0 [(.iload 1, 1), (.ifCond .lt 36, 3), (.iload 1, 1), (.aload 0, 1), (.getfield 451, 3), (.if_icmp .ge 36, 3), (.aload 0, 1), (.getfield 458, 3), (.iconst 8, 2), (.if_icmp .ge 36, 3), (.iload 1, 1), (.aload 0, 1), (.aload 0, 1), (.getfield 458, 3)] = true := by decide +kernel
theorem bX7_play_33 : Blk cX7_play 7 (some .int) false 33 [(.ifCond .eq 38, 3)] = true := by decide +kernel
theorem bX7_play_36 : Blk cX7_play 7 (some .int) false 36 [(.iconst (-1), 1), (.ireturn, 1)] = true := by decide +kernel
theorem bX7_play_38 : Blk cX7_play 7 (some .int) false 38 [(.aload 0, 1), (.aload 0, 1), (.aload 0, 1), (.getfield 458, 3)] = true := by decide +kernel
theorem bX7_play_47 : Blk cX7_play 7 (some .int) false 47 [(.iconst 1, 1), (.iload 1, 1), (.ishl, 1), (.ior, 1)] = true := by decide +kernel
theorem bX7_play_54 : Blk cX7_play 7 (some .int) false 54 [(.ifCond .ne 60, 3), (.iconst (-2), 2), (.ireturn, 1)] = true := by decide +kernel
theorem bX7_play_60 : Blk cX7_play 7 (some .int) false 60 [(.aload 0, 1), (.getstatic 457, 3), (.aload 0, 1), (.getfield 458, 3), (.iload 1, 1), (.iastore, 1), (.aload 0, 1), (.dup, 1), (.getfield 458, 3), (.iconst 1, 1), (.iadd, 1), (.putfield 458, 3), (.aload 0, 1), (.getfield 458, 3), (.ireturn, 1)] = true := by decide +kernel
theorem bX7_undo_0 : Blk cX7_undo 7 (some .int) false 0 [(.aload 0, 1), (.getfield 458, 3), (.ifCond .ne 9, 3), (.iconst (-1), 1), (.ireturn, 1)] = true := by decide +kernel
theorem bX7_undo_9 : Blk cX7_undo 7 (some .int) false 9 [(.aload 0, 1), (.dup, 1), (.getfield 458, 3), (.iconst 1, 1), (.isub, 1), (.putfield 458, 3), (.aload 0, 1), (.getstatic 457, 3), (.aload 0, 1), (.getfield 458, 3), (.iaload, 1), (.ireturn, 1)] = true := by decide +kernel
theorem bX7_done_0 : Blk cX7_done 7 (some .int) false 0 [(.aload 0, 1), (.iload 1, 1)] = true := by decide +kernel
theorem bX7_done_5 : Blk cX7_done 7 (some .int) false 5 [(.ifCond .eq 17, 3), (.aload 0, 1), (.getstatic 457, 3), (.iload 1, 1), (.iaload, 1), (.goto 18, 3)] = true := by decide +kernel
theorem bX7_done_17 : Blk cX7_done 7 (some .int) false 17 [(.iconst (-1), 1)] = true := by decide +kernel
theorem bX7_done_18 : Blk cX7_done 7 (some .int) false 18 [(.ireturn, 1)] = true := by decide +kernel
theorem bX7_marks_0 : Blk cX7_marks 7 (some .int) false 0 [(.aload 0, 1), (.iconst 0, 1)] = true := by decide +kernel
theorem bX7_marks_5 : Blk cX7_marks 7 (some .int) false 5 [(.istore 1, 1), (.iload 1, 1), (.aload 0, 1), (.aload 0, 1), (.aload 0, 1), (.getfield 458, 3)] = true := by decide +kernel
theorem bX7_marks_19 : Blk cX7_marks 7 (some .int) false 19 [(.isub, 1), (.istore 2, 1), (.iload 1, 1), (.aload 0, 1), (.aload 0, 1)] = true := by decide +kernel
theorem bX7_marks_30 : Blk cX7_marks 7 (some .int) false 30 [(.isub, 1), (.istore 3, 1), (.iload 3, 1), (.ifCond .gt 47, 3), (.iload 2, 1), (.ifCond .ge 44, 3), (.iconst 0, 1), (.goto 46, 3)] = true := by decide +kernel
theorem bX7_marks_44 : Blk cX7_marks 7 (some .int) false 44 [(.iconst 100, 2)] = true := by decide +kernel
theorem bX7_marks_46 : Blk cX7_marks 7 (some .int) false 46 [(.ireturn, 1)] = true := by decide +kernel
theorem bX7_marks_47 : Blk cX7_marks 7 (some .int) false 47 [(.jsr 100, 3), (.iload 2, 1), (.i2l, 1), (.lmul, 1), (.iload 3, 1), (.i2l, 1), (.ldiv, 1), (.lstore 4, 2), (.jsr 0, 1), (.jsr 100, 3), (.lload 4, 2)] = true := by decide +kernel
theorem bX7_marks_70 : Blk cX7_marks 7 (some .int) false 70 [(.l2i, 1), (.ireturn, 1)] = true := by decide +kernel
theorem bX7_foretells_0 : Blk cX7_foretells 7 (some .int) false 0 [(.iload 1, 1), (.ifCond .lt 10, 3), (.iload 1, 1), (.iconst 6, 2), (.if_icmp .lt 12, 3)] = true := by decide +kernel
theorem bX7_foretells_10 : Blk cX7_foretells 7 (some .int) false 10 [(.iconst (-1), 1), (.ireturn, 1)] = true := by decide +kernel
theorem bX7_foretells_12 : Blk cX7_foretells 7 (some .int) false 12 [(.aload 0, 1), (.iload 1, 1), (.aload 0, 1), (.aload 0, 1), (.getfield 458, 3)] = true := by decide +kernel
theorem bX7_foretells_25 : Blk cX7_foretells 7 (some .int) false 25 [(.ireturn, 1)] = true := by decide +kernel
theorem bX7_explained_0 : Blk cX7_explained 7 (some .int) false 0 [(.aload 0, 1), (.iload 1, 1)] = true := by decide +kernel
theorem bX7_explained_5 : Blk cX7_explained 7 (some .int) false 5 [(.ifCond .eq 16, 3), (.aload 0, 1), (.iload 1, 1)] = true := by decide +kernel
theorem bX7_explained_13 : Blk cX7_explained 7 (some .int) false 13 [(.goto 17, 3)] = true := by decide +kernel
theorem bX7_explained_16 : Blk cX7_explained 7 (some .int) false 16 [(.iconst (-1), 1)] = true := by decide +kernel
theorem bX7_explained_17 : Blk cX7_explained 7 (some .int) false 17 [(.ireturn, 1)] = true := by decide +kernel
theorem bX7_ideas_0 : Blk cX7_ideas 7 (some .int) false 0 [(.iconst 0, 1), (.istore 1, 1)] = true := by decide +kernel
theorem bX7_ideas_2 : Blk cX7_ideas 7 (some .int) false 2 [(.iload 1, 1), (.aload 0, 1), (.getfield 458, 3), (.if_icmp .ge 27, 3), (.aload 0, 1), (.getstatic 459, 3), (.iload 1, 1), (.aload 0, 1), (.iload 1, 1)] = true := by decide +kernel
theorem bX7_ideas_20 : Blk cX7_ideas 7 (some .int) false 20 [(.iastore, 1), (.iinc 1 1, 3), (.goto 2, 3)] = true := by decide +kernel
theorem bX7_ideas_27 : Blk cX7_ideas 7 (some .int) false 27 [(.iconst 63, 2), (.istore 1, 1), (.iconst 0, 1), (.istore 2, 1)] = true := by decide +kernel
theorem bX7_ideas_32 : Blk cX7_ideas 7 (some .int) false 32 [(.iload 2, 1), (.iconst 64, 2), (.if_icmp .ge 62, 3), (.aload 0, 1), (.iload 2, 1)] = true := by decide +kernel
theorem bX7_ideas_43 : Blk cX7_ideas 7 (some .int) false 43 [(.ifCond .eq 56, 3), (.iload 2, 1), (.iload 1, 1)] = true := by decide +kernel
theorem bX7_ideas_51 : Blk cX7_ideas 7 (some .int) false 51 [(.ifCond .eq 56, 3), (.iload 2, 1), (.istore 1, 1)] = true := by decide +kernel
theorem bX7_ideas_56 : Blk cX7_ideas 7 (some .int) false 56 [(.iinc 2 1, 3), (.goto 32, 3)] = true := by decide +kernel
theorem bX7_ideas_62 : Blk cX7_ideas 7 (some .int) false 62 [(.iload 1, 1), (.ireturn, 1)] = true := by decide +kernel
theorem bX7_hint_0 : Blk cX7_hint 7 (some .int) false 0 [(.aload 0, 1), (.aload 0, 1), (.getfield 458, 3)] = true := by decide +kernel
theorem bX7_hint_8 : Blk cX7_hint 7 (some .int) false 8 [(.istore 1, 1), (.aload 0, 1)] = true := by decide +kernel
theorem bX7_hint_13 : Blk cX7_hint 7 (some .int) false 13 [(.iload 1, 1), (.iconst (-1), 1), (.ixor, 1), (.iand, 1), (.istore 2, 1), (.iconst (-1), 1), (.istore 3, 1), (.iconst 0, 1), (.istore 4, 2), (.iconst 0, 1), (.istore 5, 2)] = true := by decide +kernel
theorem bX7_hint_26 : Blk cX7_hint 7 (some .int) false 26 [(.iload 5, 2), (.aload 0, 1), (.getfield 451, 3), (.if_icmp .ge 81, 3), (.iload 5, 2), (.iload 2, 1)] = true := by decide +kernel
theorem bX7_hint_41 : Blk cX7_hint 7 (some .int) false 41 [(.ifCond .eq 75, 3), (.aload 0, 1), (.iload 1, 1), (.iconst 1, 1), (.iload 5, 2), (.ishl, 1), (.ior, 1)] = true := by decide +kernel
theorem bX7_hint_54 : Blk cX7_hint 7 (some .int) false 54 [(.istore 6, 2), (.iload 3, 1), (.iconst (-1), 1), (.if_icmp .eq 68, 3), (.iload 6, 2), (.iload 4, 2), (.if_icmp .ge 75, 3)] = true := by decide +kernel
theorem bX7_hint_68 : Blk cX7_hint 7 (some .int) false 68 [(.iload 5, 2), (.istore 3, 1), (.iload 6, 2), (.istore 4, 2)] = true := by decide +kernel
theorem bX7_hint_75 : Blk cX7_hint 7 (some .int) false 75 [(.iinc 5 1, 3), (.goto 26, 3)] = true := by decide +kernel
theorem bX7_hint_81 : Blk cX7_hint 7 (some .int) false 81 [(.iload 3, 1), (.ireturn, 1)] = true := by decide +kernel
theorem bX7_saved_0 : Blk cX7_saved 7 (some .int) false 0 [(.aload 0, 1), (.iload 1, 1)] = true := by decide +kernel
theorem bX7_saved_5 : Blk cX7_saved 7 (some .int) false 5 [(.ifCond .eq 16, 3), (.aload 0, 1), (.iload 2, 1)] = true := by decide +kernel
theorem bX7_saved_13 : Blk cX7_saved 7 (some .int) false 13 [(.ifCond .ne 19, 3)] = true := by decide +kernel
theorem bX7_saved_16 : Blk cX7_saved 7 (some .int) false 16 [(.iconst (-1000000), 2), (.ireturn, 1)] = true := by decide +kernel
theorem bX7_saved_19 : Blk cX7_saved 7 (some .int) false 19 [(.aload 0, 1), (.iload 1, 1)] = true := by decide +kernel
theorem bX7_saved_24 : Blk cX7_saved 7 (some .int) false 24 [(.istore 3, 1), (.aload 0, 1), (.iload 1, 1), (.iconst 1, 1), (.iadd, 1)] = true := by decide +kernel
theorem bX7_saved_32 : Blk cX7_saved 7 (some .int) false 32 [(.istore 4, 2), (.aload 0, 1), (.getstatic 456, 3), (.iload 2, 1), (.aaload, 1), (.iload 3, 1), (.aload 0, 1), (.iload 3, 1)] = true := by decide +kernel
theorem bX7_saved_49 : Blk cX7_saved 7 (some .int) false 49 [(.aload 0, 1), (.getstatic 456, 3), (.iload 2, 1), (.aaload, 1), (.iload 4, 2), (.aload 0, 1), (.iload 4, 2)] = true := by decide +kernel
theorem bX7_saved_66 : Blk cX7_saved 7 (some .int) false 66 [(.isub, 1), (.istore 5, 2), (.iload 5, 2), (.aload 0, 1), (.getstatic 454, 3), (.iload 2, 1), (.aaload, 1), (.getfield 1, 3), (.imul, 1), (.ireturn, 1)] = true := by decide +kernel
theorem bX7_count_0 : Blk cX7_count 7 (some .int) false 0 [(.iload 1, 1)] = true := by decide +kernel
theorem bX7_count_52 : Blk cX7_count 7 (some .int) false 52 [(.aload 0, 1), (.getfield 449, 3), (.goto 127, 3)] = true := by decide +kernel
theorem bX7_count_59 : Blk cX7_count 7 (some .int) false 59 [(.aload 0, 1), (.getfield 455, 3), (.goto 127, 3)] = true := by decide +kernel
theorem bX7_count_66 : Blk cX7_count 7 (some .int) false 66 [(.aload 0, 1), (.getfield 451, 3), (.goto 127, 3)] = true := by decide +kernel
theorem bX7_count_73 : Blk cX7_count 7 (some .int) false 73 [(.aload 0, 1), (.getfield 458, 3), (.goto 127, 3)] = true := by decide +kernel
theorem bX7_count_80 : Blk cX7_count 7 (some .int) false 80 [(.aload 0, 1), (.aload 0, 1), (.aload 0, 1), (.getfield 458, 3)] = true := by decide +kernel
theorem bX7_count_92 : Blk cX7_count 7 (some .int) false 92 [(.goto 127, 3)] = true := by decide +kernel
theorem bX7_count_95 : Blk cX7_count 7 (some .int) false 95 [(.aload 0, 1), (.getfield 460, 3), (.goto 127, 3)] = true := by decide +kernel
theorem bX7_count_102 : Blk cX7_count 7 (some .int) false 102 [(.aload 0, 1), (.getfield 461, 3), (.goto 127, 3)] = true := by decide +kernel
theorem bX7_count_109 : Blk cX7_count 7 (some .int) false 109 [(.aload 0, 1)] = true := by decide +kernel
theorem bX7_count_113 : Blk cX7_count 7 (some .int) false 113 [(.goto 127, 3)] = true := by decide +kernel
theorem bX7_count_116 : Blk cX7_count 7 (some .int) false 116 [(.aload 0, 1), (.getstatic 452, 3), (.getfield 321, 3), (.goto 127, 3)] = true := by decide +kernel
theorem bX7_count_126 : Blk cX7_count 7 (some .int) false 126 [(.iconst (-1), 1)] = true := by decide +kernel
theorem bX7_count_127 : Blk cX7_count 7 (some .int) false 127 [(.ireturn, 1)] = true := by decide +kernel
theorem bX7_isTable_0 : Blk cX7_isTable 7 (some .boolean) false 0 [(.iload 1, 1), (.ifCond .lt 16, 3), (.iload 1, 1), (.aload 0, 1), (.getfield 449, 3), (.if_icmp .ge 16, 3), (.iconst 1, 1), (.goto 17, 3)] = true := by decide +kernel
theorem bX7_isTable_16 : Blk cX7_isTable 7 (some .boolean) false 16 [(.iconst 0, 1)] = true := by decide +kernel
theorem bX7_isTable_17 : Blk cX7_isTable 7 (some .boolean) false 17 [(.freturn, 1)] = true := by decide +kernel
theorem bX7_isDeed_0 : Blk cX7_isDeed 7 (some .boolean) false 0 [(.iload 1, 1), (.ifCond .lt 16, 3), (.iload 1, 1), (.aload 0, 1), (.getfield 455, 3), (.if_icmp .ge 16, 3), (.iconst 1, 1), (.goto 17, 3)] = true := by decide +kernel
theorem bX7_isDeed_16 : Blk cX7_isDeed 7 (some .boolean) false 16 [(.iconst 0, 1)] = true := by decide +kernel
theorem bX7_isDeed_17 : Blk cX7_isDeed 7 (some .boolean) false 17 [(.freturn, 1)] = true := by decide +kernel
theorem bX7_isSet_0 : Blk cX7_isSet 7 (some .boolean) false 0 [(.iload 1, 1), (.ifCond .lt 18, 3), (.iload 1, 1), (.iconst 1, 1), (.aload 0, 1), (.getfield 451, 3), (.ishl, 1), (.if_icmp .ge 18, 3), (.iconst 1, 1), (.goto 19, 3)] = true := by decide +kernel
theorem bX7_isSet_18 : Blk cX7_isSet 7 (some .boolean) false 18 [(.iconst 0, 1)] = true := by decide +kernel
theorem bX7_isSet_19 : Blk cX7_isSet 7 (some .boolean) false 19 [(.freturn, 1)] = true := by decide +kernel
theorem bX7_isPlayed_0 : Blk cX7_isPlayed 7 (some .boolean) false 0 [(.iload 1, 1), (.ifCond .lt 16, 3), (.iload 1, 1), (.aload 0, 1), (.getfield 458, 3), (.if_icmp .ge 16, 3), (.iconst 1, 1), (.goto 17, 3)] = true := by decide +kernel
theorem bX7_isPlayed_16 : Blk cX7_isPlayed 7 (some .boolean) false 16 [(.iconst 0, 1)] = true := by decide +kernel
theorem bX7_isPlayed_17 : Blk cX7_isPlayed 7 (some .boolean) false 17 [(.freturn, 1)] = true := by decide +kernel
theorem bX7_isPrice_0 : Blk cX7_isPrice 7 (some .boolean) false 0 [(.iload 0, 1), (.ifCond .lt 14, 3), (.iload 0, 1), (.iconst 100, 2), (.if_icmp .gt 14, 3), (.iconst 1, 1), (.goto 15, 3)] = true := by decide +kernel
theorem bX7_isPrice_14 : Blk cX7_isPrice 7 (some .boolean) false 14 [(.iconst 0, 1)] = true := by decide +kernel
theorem bX7_isPrice_15 : Blk cX7_isPrice 7 (some .boolean) false 15 [(.freturn, 1)] = true := by decide +kernel
theorem bX7_isIn_0 : Blk cX7_isIn 7 (some .boolean) false 0 [(.iload 1, 1), (.iload 0, 1), (.ishr, 1), (.iconst 1, 1), (.iand, 1), (.ifCond .eq 12, 3), (.iconst 1, 1), (.goto 13, 3)] = true := by decide +kernel
theorem bX7_isIn_12 : Blk cX7_isIn 7 (some .boolean) false 12 [(.iconst 0, 1)] = true := by decide +kernel
theorem bX7_isIn_13 : Blk cX7_isIn 7 (some .boolean) false 13 [(.freturn, 1)] = true := by decide +kernel
theorem bX7_addMove_0 : Blk cX7_addMove 7 (some .int) false 0 [(.aload 0, 1), (.getfield 451, 3), (.istore 1, 1), (.aload 0, 1), (.dup, 1), (.getfield 451, 3), (.iconst 1, 1), (.iadd, 1), (.putfield 451, 3), (.aload 0, 1)] = true := by decide +kernel
theorem bX7_addMove_19 : Blk cX7_addMove 7 (some .int) false 19 [(.iload 1, 1), (.ireturn, 1)] = true := by decide +kernel
theorem bX7_measureDeeds_0 : Blk cX7_measureDeeds 7 none false 0 [(.iconst 0, 1), (.istore 1, 1)] = true := by decide +kernel
theorem bX7_measureDeeds_2 : Blk cX7_measureDeeds 7 none false 2 [(.iload 1, 1), (.aload 0, 1), (.getfield 455, 3), (.if_icmp .ge 59, 3), (.aload 0, 1), (.aload 0, 1), (.getstatic 454, 3), (.iload 1, 1), (.aaload, 1), (.getfield 2, 3)] = true := by decide +kernel
theorem bX7_measureDeeds_23 : Blk cX7_measureDeeds 7 none false 23 [(.ifCond .eq 53, 3), (.aload 0, 1), (.getstatic 456, 3), (.iload 1, 1), (.aaload, 1), (.aload 0, 1), (.getstatic 454, 3), (.iload 1, 1), (.aaload, 1), (.aload 0, 1), (.getstatic 448, 3), (.aload 0, 1), (.getstatic 450, 3), (.aload 0, 1), (.getfield 451, 3)] = true := by decide +kernel
theorem bX7_measureDeeds_53 : Blk cX7_measureDeeds 7 none false 53 [(.iinc 1 1, 3), (.goto 2, 3)] = true := by decide +kernel
theorem bX7_measureDeeds_59 : Blk cX7_measureDeeds 7 none false 59 [(.return_, 1)] = true := by decide +kernel
theorem bX7_costOf_0 : Blk cX7_costOf 7 (some .int) false 0 [(.aload 0, 1), (.iload 1, 1)] = true := by decide +kernel
theorem bX7_costOf_5 : Blk cX7_costOf 7 (some .int) false 5 [(.istore 2, 1), (.iconst 0, 1), (.istore 3, 1), (.iconst 0, 1), (.istore 4, 2)] = true := by decide +kernel
theorem bX7_costOf_11 : Blk cX7_costOf 7 (some .int) false 11 [(.iload 4, 2), (.aload 0, 1), (.getfield 455, 3), (.if_icmp .ge 52, 3), (.iload 3, 1), (.aload 0, 1), (.getstatic 454, 3), (.iload 4, 2), (.aaload, 1), (.getfield 1, 3), (.aload 0, 1), (.getstatic 456, 3), (.iload 4, 2), (.aaload, 1), (.iload 1, 1), (.iload 2, 1)] = true := by decide +kernel
theorem bX7_costOf_43 : Blk cX7_costOf 7 (some .int) false 43 [(.imul, 1), (.iadd, 1), (.istore 3, 1), (.iinc 4 1, 3), (.goto 11, 3)] = true := by decide +kernel
theorem bX7_costOf_52 : Blk cX7_costOf 7 (some .int) false 52 [(.iload 3, 1), (.ireturn, 1)] = true := by decide +kernel
theorem bX7_roomWith_0 : Blk cX7_roomWith 7 (some .int) false 0 [(.aload 0, 1), (.getfield 460, 3), (.istore 2, 1), (.iconst 0, 1), (.istore 3, 1)] = true := by decide +kernel
theorem bX7_roomWith_7 : Blk cX7_roomWith 7 (some .int) false 7 [(.iload 3, 1), (.aload 0, 1), (.getfield 451, 3), (.if_icmp .ge 41, 3), (.iload 3, 1), (.iload 1, 1)] = true := by decide +kernel
theorem bX7_roomWith_20 : Blk cX7_roomWith 7 (some .int) false 20 [(.ifCond .eq 35, 3), (.iload 2, 1), (.aload 0, 1), (.getstatic 450, 3), (.iload 3, 1), (.aaload, 1), (.getfield 67, 3), (.iadd, 1), (.istore 2, 1)] = true := by decide +kernel
theorem bX7_roomWith_35 : Blk cX7_roomWith 7 (some .int) false 35 [(.iinc 3 1, 3), (.goto 7, 3)] = true := by decide +kernel
theorem bX7_roomWith_41 : Blk cX7_roomWith 7 (some .int) false 41 [(.iload 2, 1), (.ireturn, 1)] = true := by decide +kernel
theorem bX7_pricesOf_0 : Blk cX7_pricesOf 7 (some .int) false 0 [(.iconst 0, 1), (.istore 2, 1), (.iconst 0, 1), (.istore 3, 1)] = true := by decide +kernel
theorem bX7_pricesOf_4 : Blk cX7_pricesOf 7 (some .int) false 4 [(.iload 3, 1), (.aload 0, 1), (.getfield 451, 3), (.if_icmp .ge 38, 3), (.iload 3, 1), (.iload 1, 1)] = true := by decide +kernel
theorem bX7_pricesOf_17 : Blk cX7_pricesOf 7 (some .int) false 17 [(.ifCond .eq 32, 3), (.iload 2, 1), (.aload 0, 1), (.getstatic 450, 3), (.iload 3, 1), (.aaload, 1), (.getfield 68, 3), (.iadd, 1), (.istore 2, 1)] = true := by decide +kernel
theorem bX7_pricesOf_32 : Blk cX7_pricesOf 7 (some .int) false 32 [(.iinc 3 1, 3), (.goto 4, 3)] = true := by decide +kernel
theorem bX7_pricesOf_38 : Blk cX7_pricesOf 7 (some .int) false 38 [(.iload 2, 1), (.ireturn, 1)] = true := by decide +kernel
theorem bX7_isAffordable_0 : Blk cX7_isAffordable 7 (some .boolean) false 0 [(.aload 0, 1), (.iload 1, 1)] = true := by decide +kernel
theorem bX7_isAffordable_5 : Blk cX7_isAffordable 7 (some .boolean) false 5 [(.aload 0, 1), (.getfield 461, 3), (.if_icmp .gt 16, 3), (.iconst 1, 1), (.goto 17, 3)] = true := by decide +kernel
theorem bX7_isAffordable_16 : Blk cX7_isAffordable 7 (some .boolean) false 16 [(.iconst 0, 1)] = true := by decide +kernel
theorem bX7_isAffordable_17 : Blk cX7_isAffordable 7 (some .boolean) false 17 [(.freturn, 1)] = true := by decide +kernel
theorem bX7_affordableSets_0 : Blk cX7_affordableSets 7 (some .int) false 0 [(.iconst 0, 1), (.istore 1, 1), (.iconst 0, 1), (.istore 2, 1)] = true := by decide +kernel
theorem bX7_affordableSets_4 : Blk cX7_affordableSets 7 (some .int) false 4 [(.iload 2, 1), (.iconst 1, 1), (.aload 0, 1), (.getfield 451, 3), (.ishl, 1), (.if_icmp .ge 31, 3), (.aload 0, 1), (.iload 2, 1)] = true := by decide +kernel
theorem bX7_affordableSets_19 : Blk cX7_affordableSets 7 (some .int) false 19 [(.ifCond .eq 25, 3), (.iinc 1 1, 3)] = true := by decide +kernel
theorem bX7_affordableSets_25 : Blk cX7_affordableSets 7 (some .int) false 25 [(.iinc 2 1, 3), (.goto 4, 3)] = true := by decide +kernel
theorem bX7_affordableSets_31 : Blk cX7_affordableSets 7 (some .int) false 31 [(.iload 1, 1), (.ireturn, 1)] = true := by decide +kernel
theorem bX7_bestSet_0 : Blk cX7_bestSet 7 (some .int) false 0 [(.iconst 0, 1), (.istore 1, 1), (.aload 0, 1), (.iconst 0, 1)] = true := by decide +kernel
theorem bX7_bestSet_7 : Blk cX7_bestSet 7 (some .int) false 7 [(.istore 2, 1), (.iconst 1, 1), (.istore 3, 1)] = true := by decide +kernel
theorem bX7_bestSet_10 : Blk cX7_bestSet 7 (some .int) false 10 [(.iload 3, 1), (.iconst 1, 1), (.aload 0, 1), (.getfield 451, 3), (.ishl, 1), (.if_icmp .ge 67, 3), (.aload 0, 1), (.iload 3, 1)] = true := by decide +kernel
theorem bX7_bestSet_25 : Blk cX7_bestSet 7 (some .int) false 25 [(.ifCond .eq 61, 3), (.aload 0, 1), (.iload 3, 1)] = true := by decide +kernel
theorem bX7_bestSet_33 : Blk cX7_bestSet 7 (some .int) false 33 [(.istore 4, 2), (.iload 4, 2), (.iload 2, 1), (.if_icmp .lt 56, 3), (.iload 4, 2), (.iload 2, 1), (.if_icmp .ne 61, 3), (.aload 0, 1), (.iload 3, 1), (.iload 1, 1)] = true := by decide +kernel
theorem bX7_bestSet_53 : Blk cX7_bestSet 7 (some .int) false 53 [(.ifCond .eq 61, 3)] = true := by decide +kernel
theorem bX7_bestSet_56 : Blk cX7_bestSet 7 (some .int) false 56 [(.iload 3, 1), (.istore 1, 1), (.iload 4, 2), (.istore 2, 1)] = true := by decide +kernel
theorem bX7_bestSet_61 : Blk cX7_bestSet 7 (some .int) false 61 [(.iinc 3 1, 3), (.goto 10, 3)] = true := by decide +kernel
theorem bX7_bestSet_67 : Blk cX7_bestSet 7 (some .int) false 67 [(.iload 1, 1), (.ireturn, 1)] = true := by decide +kernel
theorem bX7_isThriftier_0 : Blk cX7_isThriftier 7 (some .boolean) false 0 [(.aload 0, 1), (.iload 1, 1)] = true := by decide +kernel
theorem bX7_isThriftier_5 : Blk cX7_isThriftier 7 (some .boolean) false 5 [(.istore 3, 1), (.aload 0, 1), (.iload 2, 1)] = true := by decide +kernel
theorem bX7_isThriftier_11 : Blk cX7_isThriftier 7 (some .boolean) false 11 [(.istore 4, 2), (.iload 3, 1), (.iload 4, 2), (.if_icmp .ne 27, 3), (.iload 1, 1), (.iload 2, 1)] = true := by decide +kernel
theorem bX7_isThriftier_24 : Blk cX7_isThriftier 7 (some .boolean) false 24 [(.goto 38, 3)] = true := by decide +kernel
theorem bX7_isThriftier_27 : Blk cX7_isThriftier 7 (some .boolean) false 27 [(.iload 3, 1), (.iload 4, 2), (.if_icmp .ge 37, 3), (.iconst 1, 1), (.goto 38, 3)] = true := by decide +kernel
theorem bX7_isThriftier_37 : Blk cX7_isThriftier 7 (some .boolean) false 37 [(.iconst 0, 1)] = true := by decide +kernel
theorem bX7_isThriftier_38 : Blk cX7_isThriftier 7 (some .boolean) false 38 [(.freturn, 1)] = true := by decide +kernel
theorem bX7_isSmaller_0 : Blk cX7_isSmaller 7 (some .boolean) false 0 [(.iload 0, 1)] = true := by decide +kernel
theorem bX7_isSmaller_4 : Blk cX7_isSmaller 7 (some .boolean) false 4 [(.istore 2, 1), (.iload 1, 1)] = true := by decide +kernel
theorem bX7_isSmaller_9 : Blk cX7_isSmaller 7 (some .boolean) false 9 [(.istore 3, 1), (.iload 2, 1), (.iload 3, 1), (.if_icmp .eq 26, 3), (.iload 2, 1), (.iload 3, 1), (.if_icmp .ge 24, 3), (.iconst 1, 1), (.goto 25, 3)] = true := by decide +kernel
theorem bX7_isSmaller_24 : Blk cX7_isSmaller 7 (some .boolean) false 24 [(.iconst 0, 1)] = true := by decide +kernel
theorem bX7_isSmaller_25 : Blk cX7_isSmaller 7 (some .boolean) false 25 [(.freturn, 1)] = true := by decide +kernel
theorem bX7_isSmaller_26 : Blk cX7_isSmaller 7 (some .boolean) false 26 [(.iload 0, 1), (.iload 1, 1), (.ixor, 1), (.istore 4, 2), (.iload 0, 1), (.iload 4, 2), (.iand, 1), (.iload 4, 2), (.ineg, 1), (.iand, 1), (.ifCond .eq 46, 3), (.iconst 1, 1), (.goto 47, 3)] = true := by decide +kernel
theorem bX7_isSmaller_46 : Blk cX7_isSmaller 7 (some .boolean) false 46 [(.iconst 0, 1)] = true := by decide +kernel
theorem bX7_isSmaller_47 : Blk cX7_isSmaller 7 (some .boolean) false 47 [(.freturn, 1)] = true := by decide +kernel
theorem bX7_playedSet_0 : Blk cX7_playedSet 7 (some .int) false 0 [(.iconst 0, 1), (.istore 2, 1), (.iconst 0, 1), (.istore 3, 1)] = true := by decide +kernel
theorem bX7_playedSet_4 : Blk cX7_playedSet 7 (some .int) false 4 [(.iload 3, 1), (.iload 1, 1), (.if_icmp .ge 34, 3), (.iload 3, 1), (.aload 0, 1), (.getfield 458, 3), (.if_icmp .ge 34, 3), (.iload 2, 1), (.iconst 1, 1), (.aload 0, 1), (.getstatic 457, 3), (.iload 3, 1), (.iaload, 1), (.ishl, 1), (.ior, 1), (.istore 2, 1), (.iinc 3 1, 3), (.goto 4, 3)] = true := by decide +kernel
theorem bX7_playedSet_34 : Blk cX7_playedSet 7 (some .int) false 34 [(.iload 2, 1), (.ireturn, 1)] = true := by decide +kernel
theorem bX7_foretold_0 : Blk cX7_foretold 7 (some .int) false 0 [(.iconst (-1), 1), (.istore 3, 1), (.iconst 0, 1), (.istore 4, 2), (.iconst 0, 1), (.istore 5, 2)] = true := by decide +kernel
theorem bX7_foretold_8 : Blk cX7_foretold 7 (some .int) false 8 [(.iload 5, 2), (.aload 0, 1), (.getfield 451, 3), (.if_icmp .ge 96, 3), (.iload 2, 1), (.iconst 1, 1), (.iload 5, 2), (.ishl, 1), (.ior, 1), (.istore 6, 2), (.iload 6, 2), (.iload 2, 1), (.if_icmp .eq 90, 3), (.aload 0, 1), (.iload 6, 2)] = true := by decide +kernel
theorem bX7_foretold_37 : Blk cX7_foretold 7 (some .int) false 37 [(.ifCond .eq 90, 3), (.aload 0, 1), (.iload 1, 1), (.aload 0, 1), (.getstatic 450, 3), (.iload 5, 2), (.aaload, 1)] = true := by decide +kernel
theorem bX7_foretold_52 : Blk cX7_foretold 7 (some .int) false 52 [(.ifCond .eq 90, 3), (.aload 0, 1), (.iload 1, 1), (.aload 0, 1), (.getstatic 450, 3), (.iload 5, 2), (.aaload, 1), (.iload 6, 2)] = true := by decide +kernel
theorem bX7_foretold_69 : Blk cX7_foretold 7 (some .int) false 69 [(.istore 7, 2), (.iload 3, 1), (.iconst (-1), 1), (.if_icmp .eq 83, 3), (.iload 7, 2), (.iload 4, 2), (.if_icmp .le 90, 3)] = true := by decide +kernel
theorem bX7_foretold_83 : Blk cX7_foretold 7 (some .int) false 83 [(.iload 5, 2), (.istore 3, 1), (.iload 7, 2), (.istore 4, 2)] = true := by decide +kernel
theorem bX7_foretold_90 : Blk cX7_foretold 7 (some .int) false 90 [(.iinc 5 1, 3), (.goto 8, 3)] = true := by decide +kernel
theorem bX7_foretold_96 : Blk cX7_foretold 7 (some .int) false 96 [(.iload 3, 1), (.ireturn, 1)] = true := by decide +kernel
theorem bX7_suits_0 : Blk cX7_suits 7 (some .boolean) false 0 [(.iload 1, 1)] = true := by decide +kernel
theorem bX7_suits_32 : Blk cX7_suits 7 (some .boolean) false 32 [(.aload 2, 1)] = true := by decide +kernel
theorem bX7_suits_36 : Blk cX7_suits 7 (some .boolean) false 36 [(.goto 81, 3)] = true := by decide +kernel
theorem bX7_suits_39 : Blk cX7_suits 7 (some .boolean) false 39 [(.aload 2, 1)] = true := by decide +kernel
theorem bX7_suits_43 : Blk cX7_suits 7 (some .boolean) false 43 [(.ifCond .ne 50, 3), (.iconst 1, 1), (.goto 81, 3)] = true := by decide +kernel
theorem bX7_suits_50 : Blk cX7_suits 7 (some .boolean) false 50 [(.iconst 0, 1), (.goto 81, 3)] = true := by decide +kernel
theorem bX7_suits_54 : Blk cX7_suits 7 (some .boolean) false 54 [(.aload 2, 1)] = true := by decide +kernel
theorem bX7_suits_58 : Blk cX7_suits 7 (some .boolean) false 58 [(.ifCond .eq 76, 3), (.aload 2, 1), (.getfield 64, 3), (.aload 0, 1)] = true := by decide +kernel
theorem bX7_suits_69 : Blk cX7_suits 7 (some .boolean) false 69 [(.if_icmp .ne 76, 3), (.iconst 1, 1), (.goto 81, 3)] = true := by decide +kernel
theorem bX7_suits_76 : Blk cX7_suits 7 (some .boolean) false 76 [(.iconst 0, 1), (.goto 81, 3)] = true := by decide +kernel
theorem bX7_suits_80 : Blk cX7_suits 7 (some .boolean) false 80 [(.iconst 1, 1)] = true := by decide +kernel
theorem bX7_suits_81 : Blk cX7_suits 7 (some .boolean) false 81 [(.freturn, 1)] = true := by decide +kernel
theorem bX7_meritOf_0 : Blk cX7_meritOf 7 (some .int) false 0 [(.iload 1, 1)] = true := by decide +kernel
theorem bX7_meritOf_32 : Blk cX7_meritOf 7 (some .int) false 32 [(.aload 2, 1), (.getfield 68, 3), (.ineg, 1), (.goto 64, 3)] = true := by decide +kernel
theorem bX7_meritOf_40 : Blk cX7_meritOf 7 (some .int) false 40 [(.aload 2, 1), (.getfield 66, 3), (.goto 64, 3)] = true := by decide +kernel
theorem bX7_meritOf_47 : Blk cX7_meritOf 7 (some .int) false 47 [(.aload 0, 1), (.iload 3, 1)] = true := by decide +kernel
theorem bX7_meritOf_52 : Blk cX7_meritOf 7 (some .int) false 52 [(.ineg, 1), (.goto 64, 3)] = true := by decide +kernel
theorem bX7_meritOf_56 : Blk cX7_meritOf 7 (some .int) false 56 [(.aload 2, 1), (.getfield 67, 3), (.goto 64, 3)] = true := by decide +kernel
theorem bX7_meritOf_63 : Blk cX7_meritOf 7 (some .int) false 63 [(.iconst 0, 1)] = true := by decide +kernel
theorem bX7_meritOf_64 : Blk cX7_meritOf 7 (some .int) false 64 [(.ireturn, 1)] = true := by decide +kernel
theorem bX7_greatestAskTable_0 : Blk cX7_greatestAskTable 7 (some .int) false 0 [(.iconst (-1), 1), (.istore 1, 1), (.iconst (-1), 1), (.istore 2, 1), (.iconst 0, 1), (.istore 3, 1)] = true := by decide +kernel
theorem bX7_greatestAskTable_6 : Blk cX7_greatestAskTable 7 (some .int) false 6 [(.iload 3, 1), (.aload 0, 1), (.getfield 455, 3), (.if_icmp .ge 65, 3), (.aload 0, 1), (.getstatic 454, 3), (.iload 3, 1), (.aaload, 1), (.getfield 0, 3), (.ifCond .ne 59, 3), (.aload 0, 1), (.getstatic 454, 3), (.iload 3, 1), (.aaload, 1), (.getfield 1, 3), (.iload 2, 1), (.if_icmp .le 59, 3), (.aload 0, 1), (.getstatic 454, 3), (.iload 3, 1), (.aaload, 1), (.getfield 1, 3), (.istore 2, 1), (.aload 0, 1), (.getstatic 454, 3), (.iload 3, 1), (.aaload, 1), (.getfield 2, 3), (.istore 1, 1)] = true := by decide +kernel
theorem bX7_greatestAskTable_59 : Blk cX7_greatestAskTable 7 (some .int) false 59 [(.iinc 3 1, 3), (.goto 6, 3)] = true := by decide +kernel
theorem bX7_greatestAskTable_65 : Blk cX7_greatestAskTable 7 (some .int) false 65 [(.iload 1, 1), (.ireturn, 1)] = true := by decide +kernel
theorem bX7_explainers_0 : Blk cX7_explainers 7 (some .int) false 0 [(.aload 0, 1), (.iload 1, 1)] = true := by decide +kernel
theorem bX7_explainers_5 : Blk cX7_explainers 7 (some .int) false 5 [(.istore 2, 1), (.iconst 0, 1), (.istore 3, 1), (.iconst 0, 1), (.istore 4, 2)] = true := by decide +kernel
theorem bX7_explainers_11 : Blk cX7_explainers 7 (some .int) false 11 [(.iload 4, 2), (.iconst 6, 2), (.if_icmp .ge 47, 3), (.aload 0, 1), (.iload 4, 2), (.iload 2, 1)] = true := by decide +kernel
theorem bX7_explainers_25 : Blk cX7_explainers 7 (some .int) false 25 [(.aload 0, 1), (.getstatic 457, 3), (.iload 1, 1), (.iaload, 1), (.if_icmp .ne 41, 3), (.iload 3, 1), (.iconst 1, 1), (.iload 4, 2), (.ishl, 1), (.ior, 1), (.istore 3, 1)] = true := by decide +kernel
theorem bX7_explainers_41 : Blk cX7_explainers 7 (some .int) false 41 [(.iinc 4 1, 3), (.goto 11, 3)] = true := by decide +kernel
theorem bX7_explainers_47 : Blk cX7_explainers 7 (some .int) false 47 [(.iload 3, 1), (.ireturn, 1)] = true := by decide +kernel
theorem bX7_explainsAll_0 : Blk cX7_explainsAll 7 (some .boolean) false 0 [(.iconst 0, 1), (.istore 2, 1)] = true := by decide +kernel
theorem bX7_explainsAll_2 : Blk cX7_explainsAll 7 (some .boolean) false 2 [(.iload 2, 1), (.aload 0, 1), (.getfield 458, 3), (.if_icmp .ge 38, 3), (.aload 0, 1), (.getstatic 459, 3), (.iload 2, 1), (.iaload, 1), (.ifCond .eq 32, 3), (.aload 0, 1), (.getstatic 459, 3), (.iload 2, 1), (.iaload, 1), (.iload 1, 1), (.iand, 1), (.ifCond .ne 32, 3), (.iconst 0, 1), (.freturn, 1)] = true := by decide +kernel
theorem bX7_explainsAll_32 : Blk cX7_explainsAll 7 (some .boolean) false 32 [(.iinc 2 1, 3), (.goto 2, 3)] = true := by decide +kernel
theorem bX7_explainsAll_38 : Blk cX7_explainsAll 7 (some .boolean) false 38 [(.iconst 1, 1), (.freturn, 1)] = true := by decide +kernel
theorem bX7_lookupCost_0 : Blk cX7_lookupCost 7 (some .int) false 0 [(.iconst 1, 1), (.iload 0, 1), (.iconst 16, 2), (.iadd, 1), (.iconst 1, 1), (.isub, 1), (.iconst 16, 2), (.idiv, 1), (.iadd, 1), (.iload 0, 1), (.iadd, 1), (.ireturn, 1)] = true := by decide +kernel
theorem bJ6_bitCount_0f7a4_0 : Blk cJ6_bitCount_0f7a4 10 (some .int) false 0 [(.iload 0, 1), (.iload 0, 1), (.iconst 1, 1), (.iushr, 1), (.iconst 1431655765, 3), (.iand, 1), (.isub, 1), (.istore 0, 1), (.iload 0, 1), (.iconst 858993459, 3), (.iand, 1), (.iload 0, 1), (.iconst 2, 1), (.iushr, 1), (.iconst 858993459, 3), (.iand, 1), (.iadd, 1), (.istore 0, 1), (.iload 0, 1), (.iload 0, 1), (.iconst 4, 1), (.iushr, 1), (.iadd, 1), (.iconst 252645135, 3), (.iand, 1), (.istore 0, 1), (.iload 0, 1), (.iload 0, 1), (.iconst 8, 2), (.iushr, 1), (.iadd, 1), (.istore 0, 1), (.iload 0, 1), (.iload 0, 1), (.iconst 16, 2), (.iushr, 1), (.iadd, 1), (.istore 0, 1), (.iload 0, 1), (.iconst 63, 2), (.iand, 1), (.ireturn, 1)] = true := by decide +kernel
theorem bJ9_max_f86c9_0 : Blk cJ9_max_f86c9 11 (some .long) false 0 [(.lload 0, 1), (.lload 2, 1), (.lcmp, 1), (.ifCond .lt 10, 3), (.lload 0, 1), (.goto 11, 3)] = true := by decide +kernel
theorem bJ9_max_f86c9_10 : Blk cJ9_max_f86c9 11 (some .long) false 10 [(.lload 2, 1)] = true := by decide +kernel
theorem bJ9_max_f86c9_11 : Blk cJ9_max_f86c9 11 (some .long) false 11 [(.lreturn, 1)] = true := by decide +kernel
theorem bJ9_min_7cf53_0 : Blk cJ9_min_7cf53 11 (some .int) false 0 [(.iload 0, 1), (.iload 1, 1), (.if_icmp .gt 9, 3), (.iload 0, 1), (.goto 10, 3)] = true := by decide +kernel
theorem bJ9_min_7cf53_9 : Blk cJ9_min_7cf53 11 (some .int) false 9 [(.iload 1, 1)] = true := by decide +kernel
theorem bJ9_min_7cf53_10 : Blk cJ9_min_7cf53 11 (some .int) false 10 [(.ireturn, 1)] = true := by decide +kernel
theorem bJ9_min_f86c9_0 : Blk cJ9_min_f86c9 11 (some .long) false 0 [(.lload 0, 1), (.lload 2, 1), (.lcmp, 1), (.ifCond .gt 10, 3), (.lload 0, 1), (.goto 11, 3)] = true := by decide +kernel
theorem bJ9_min_f86c9_10 : Blk cJ9_min_f86c9 11 (some .long) false 10 [(.lload 2, 1)] = true := by decide +kernel
theorem bJ9_min_f86c9_11 : Blk cJ9_min_f86c9 11 (some .long) false 11 [(.lreturn, 1)] = true := by decide +kernel
theorem bL_law_3 : Blk cL_law 9 (some .boolean) false 3 [(.dup, 1)] = true := by decide +kernel
theorem bL_law_7 : Blk cL_law 9 (some .boolean) false 7 [(.astore 1, 1)] = true := by decide +kernel
theorem bL_law_11 : Blk cL_law 9 (some .boolean) false 11 [(.dup, 1)] = true := by decide +kernel
theorem bL_law_15 : Blk cL_law 9 (some .boolean) false 15 [(.astore 2, 1), (.iconst 0, 1), (.istore 3, 1)] = true := by decide +kernel
theorem bL_law_18 : Blk cL_law 9 (some .boolean) false 18 [(.iload 3, 1), (.aload 0, 1)] = true := by decide +kernel
theorem bL_law_21 : Blk cL_law 9 (some .boolean) false 21 [(.iconst 6, 2), (.isub, 1), (.if_icmp .gt 802, 3), (.aload 0, 1), (.iload 3, 1), (.iaload, 1), (.iconst 31, 2), (.iand, 1)] = true := by decide +kernel
theorem bL_law_144 : Blk cL_law 9 (some .boolean) false 144 [(.aload 1, 1), (.aload 0, 1), (.iload 3, 1), (.iconst 1, 1), (.iadd, 1), (.iaload, 1), (.aload 0, 1), (.iload 3, 1), (.iconst 2, 1), (.iadd, 1), (.iaload, 1), (.aload 0, 1), (.iload 3, 1), (.iconst 3, 1), (.iadd, 1), (.iaload, 1), (.aload 0, 1), (.iload 3, 1), (.iconst 4, 1), (.iadd, 1), (.iaload, 1), (.aload 0, 1), (.iload 3, 1), (.iconst 5, 1), (.iadd, 1), (.iaload, 1)] = true := by decide +kernel
theorem bL_law_173 : Blk cL_law 9 (some .boolean) false 173 [(.aload 2, 1), (.aload 0, 1), (.iload 3, 1), (.iconst 1, 1), (.iadd, 1), (.iaload, 1), (.aload 0, 1), (.iload 3, 1), (.iconst 2, 1), (.iadd, 1), (.iaload, 1), (.aload 0, 1), (.iload 3, 1), (.iconst 3, 1), (.iadd, 1), (.iaload, 1), (.aload 0, 1), (.iload 3, 1), (.iconst 4, 1), (.iadd, 1), (.iaload, 1), (.aload 0, 1), (.iload 3, 1), (.iconst 5, 1), (.iadd, 1), (.iaload, 1)] = true := by decide +kernel
theorem bL_law_202 : Blk cL_law 9 (some .boolean) false 202 [(.if_icmp .eq 796, 3), (.iconst 0, 1), (.freturn, 1)] = true := by decide +kernel
theorem bL_law_207 : Blk cL_law 9 (some .boolean) false 207 [(.aload 1, 1), (.aload 0, 1), (.iload 3, 1), (.iconst 1, 1), (.iadd, 1), (.iaload, 1)] = true := by decide +kernel
theorem bL_law_216 : Blk cL_law 9 (some .boolean) false 216 [(.aload 2, 1), (.aload 0, 1), (.iload 3, 1), (.iconst 1, 1), (.iadd, 1), (.iaload, 1)] = true := by decide +kernel
theorem bL_law_225 : Blk cL_law 9 (some .boolean) false 225 [(.if_icmp .eq 796, 3), (.iconst 0, 1), (.freturn, 1)] = true := by decide +kernel
theorem bL_law_230 : Blk cL_law 9 (some .boolean) false 230 [(.aload 1, 1)] = true := by decide +kernel
theorem bL_law_234 : Blk cL_law 9 (some .boolean) false 234 [(.aload 2, 1)] = true := by decide +kernel
theorem bL_law_238 : Blk cL_law 9 (some .boolean) false 238 [(.if_icmp .eq 796, 3), (.iconst 0, 1), (.freturn, 1)] = true := by decide +kernel
theorem bL_law_243 : Blk cL_law 9 (some .boolean) false 243 [(.aload 1, 1)] = true := by decide +kernel
theorem bL_law_247 : Blk cL_law 9 (some .boolean) false 247 [(.aload 2, 1)] = true := by decide +kernel
theorem bL_law_251 : Blk cL_law 9 (some .boolean) false 251 [(.if_icmp .eq 796, 3), (.iconst 0, 1), (.freturn, 1)] = true := by decide +kernel
theorem bL_law_256 : Blk cL_law 9 (some .boolean) false 256 [(.aload 1, 1), (.aload 0, 1), (.iload 3, 1), (.iconst 1, 1), (.iadd, 1), (.iaload, 1)] = true := by decide +kernel
theorem bL_law_265 : Blk cL_law 9 (some .boolean) false 265 [(.aload 2, 1), (.aload 0, 1), (.iload 3, 1), (.iconst 1, 1), (.iadd, 1), (.iaload, 1)] = true := by decide +kernel
theorem bL_law_274 : Blk cL_law 9 (some .boolean) false 274 [(.if_icmp .eq 796, 3), (.iconst 0, 1), (.freturn, 1)] = true := by decide +kernel
theorem bL_law_279 : Blk cL_law 9 (some .boolean) false 279 [(.aload 1, 1), (.aload 0, 1), (.iload 3, 1), (.iconst 1, 1), (.iadd, 1), (.iaload, 1), (.aload 0, 1), (.iload 3, 1), (.iconst 2, 1), (.iadd, 1), (.iaload, 1), (.aload 0, 1), (.iload 3, 1), (.iconst 3, 1), (.iadd, 1), (.iaload, 1), (.aload 0, 1), (.iload 3, 1), (.iconst 4, 1), (.iadd, 1), (.iaload, 1), (.aload 0, 1), (.iload 3, 1), (.iconst 5, 1), (.iadd, 1), (.iaload, 1)] = true := by decide +kernel
theorem bL_law_308 : Blk cL_law 9 (some .boolean) false 308 [(.aload 2, 1), (.aload 0, 1), (.iload 3, 1), (.iconst 1, 1), (.iadd, 1), (.iaload, 1), (.aload 0, 1), (.iload 3, 1), (.iconst 2, 1), (.iadd, 1), (.iaload, 1), (.aload 0, 1), (.iload 3, 1), (.iconst 3, 1), (.iadd, 1), (.iaload, 1), (.aload 0, 1), (.iload 3, 1), (.iconst 4, 1), (.iadd, 1), (.iaload, 1), (.aload 0, 1), (.iload 3, 1), (.iconst 5, 1), (.iadd, 1), (.iaload, 1)] = true := by decide +kernel
theorem bL_law_337 : Blk cL_law 9 (some .boolean) false 337 [(.if_icmp .eq 796, 3), (.iconst 0, 1), (.freturn, 1)] = true := by decide +kernel
theorem bL_law_342 : Blk cL_law 9 (some .boolean) false 342 [(.aload 1, 1), (.aload 0, 1), (.iload 3, 1), (.iconst 1, 1), (.iadd, 1), (.iaload, 1)] = true := by decide +kernel
theorem bL_law_351 : Blk cL_law 9 (some .boolean) false 351 [(.aload 2, 1), (.aload 0, 1), (.iload 3, 1), (.iconst 1, 1), (.iadd, 1), (.iaload, 1)] = true := by decide +kernel
theorem bL_law_360 : Blk cL_law 9 (some .boolean) false 360 [(.if_icmp .eq 796, 3), (.iconst 0, 1), (.freturn, 1)] = true := by decide +kernel
theorem bL_law_365 : Blk cL_law 9 (some .boolean) false 365 [(.aload 1, 1), (.aload 0, 1), (.iload 3, 1), (.iconst 1, 1), (.iadd, 1), (.iaload, 1)] = true := by decide +kernel
theorem bL_law_374 : Blk cL_law 9 (some .boolean) false 374 [(.aload 2, 1), (.aload 0, 1), (.iload 3, 1), (.iconst 1, 1), (.iadd, 1), (.iaload, 1)] = true := by decide +kernel
theorem bL_law_383 : Blk cL_law 9 (some .boolean) false 383 [(.if_icmp .eq 796, 3), (.iconst 0, 1), (.freturn, 1)] = true := by decide +kernel
theorem bL_law_388 : Blk cL_law 9 (some .boolean) false 388 [(.aload 1, 1), (.aload 0, 1), (.iload 3, 1), (.iconst 1, 1), (.iadd, 1), (.iaload, 1), (.aload 0, 1), (.iload 3, 1), (.iconst 2, 1), (.iadd, 1), (.iaload, 1), (.aload 0, 1), (.iload 3, 1), (.iconst 3, 1), (.iadd, 1), (.iaload, 1), (.aload 0, 1), (.iload 3, 1), (.iconst 4, 1), (.iadd, 1), (.iaload, 1), (.aload 0, 1), (.iload 3, 1), (.iconst 5, 1), (.iadd, 1), (.iaload, 1)] = true := by decide +kernel
theorem bL_law_417 : Blk cL_law 9 (some .boolean) false 417 [(.aload 2, 1), (.aload 0, 1), (.iload 3, 1), (.iconst 1, 1), (.iadd, 1), (.iaload, 1), (.aload 0, 1), (.iload 3, 1), (.iconst 2, 1), (.iadd, 1), (.iaload, 1), (.aload 0, 1), (.iload 3, 1), (.iconst 3, 1), (.iadd, 1), (.iaload, 1), (.aload 0, 1), (.iload 3, 1), (.iconst 4, 1), (.iadd, 1), (.iaload, 1), (.aload 0, 1), (.iload 3, 1), (.iconst 5, 1), (.iadd, 1), (.iaload, 1)] = true := by decide +kernel
theorem bL_law_446 : Blk cL_law 9 (some .boolean) false 446 [(.if_icmp .eq 796, 3), (.iconst 0, 1), (.freturn, 1)] = true := by decide +kernel
theorem bL_law_451 : Blk cL_law 9 (some .boolean) false 451 [(.aload 1, 1), (.aload 0, 1), (.iload 3, 1), (.iconst 1, 1), (.iadd, 1), (.iaload, 1), (.aload 0, 1), (.iload 3, 1), (.iconst 2, 1), (.iadd, 1), (.iaload, 1)] = true := by decide +kernel
theorem bL_law_465 : Blk cL_law 9 (some .boolean) false 465 [(.aload 2, 1), (.aload 0, 1), (.iload 3, 1), (.iconst 1, 1), (.iadd, 1), (.iaload, 1), (.aload 0, 1), (.iload 3, 1), (.iconst 2, 1), (.iadd, 1), (.iaload, 1)] = true := by decide +kernel
theorem bL_law_479 : Blk cL_law 9 (some .boolean) false 479 [(.if_icmp .eq 796, 3), (.iconst 0, 1), (.freturn, 1)] = true := by decide +kernel
theorem bL_law_484 : Blk cL_law 9 (some .boolean) false 484 [(.aload 1, 1), (.aload 0, 1), (.iload 3, 1), (.iconst 1, 1), (.iadd, 1), (.iaload, 1)] = true := by decide +kernel
theorem bL_law_493 : Blk cL_law 9 (some .boolean) false 493 [(.aload 2, 1), (.aload 0, 1), (.iload 3, 1), (.iconst 1, 1), (.iadd, 1), (.iaload, 1)] = true := by decide +kernel
theorem bL_law_502 : Blk cL_law 9 (some .boolean) false 502 [(.if_icmp .eq 796, 3), (.iconst 0, 1), (.freturn, 1)] = true := by decide +kernel
theorem bL_law_507 : Blk cL_law 9 (some .boolean) false 507 [(.aload 1, 1), (.aload 0, 1), (.iload 3, 1), (.iconst 1, 1), (.iadd, 1), (.iaload, 1), (.aload 0, 1), (.iload 3, 1), (.iconst 2, 1), (.iadd, 1), (.iaload, 1)] = true := by decide +kernel
theorem bL_law_521 : Blk cL_law 9 (some .boolean) false 521 [(.aload 2, 1), (.aload 0, 1), (.iload 3, 1), (.iconst 1, 1), (.iadd, 1), (.iaload, 1), (.aload 0, 1), (.iload 3, 1), (.iconst 2, 1), (.iadd, 1), (.iaload, 1)] = true := by decide +kernel
theorem bL_law_535 : Blk cL_law 9 (some .boolean) false 535 [(.if_icmp .eq 796, 3), (.iconst 0, 1), (.freturn, 1)] = true := by decide +kernel
theorem bL_law_540 : Blk cL_law 9 (some .boolean) false 540 [(.aload 1, 1), (.aload 0, 1), (.iload 3, 1), (.iconst 1, 1), (.iadd, 1), (.iaload, 1), (.aload 0, 1), (.iload 3, 1), (.iconst 2, 1), (.iadd, 1), (.iaload, 1), (.aload 0, 1), (.iload 3, 1), (.iconst 3, 1), (.iadd, 1), (.iaload, 1)] = true := by decide +kernel
theorem bL_law_559 : Blk cL_law 9 (some .boolean) false 559 [(.aload 2, 1), (.aload 0, 1), (.iload 3, 1), (.iconst 1, 1), (.iadd, 1), (.iaload, 1), (.aload 0, 1), (.iload 3, 1), (.iconst 2, 1), (.iadd, 1), (.iaload, 1), (.aload 0, 1), (.iload 3, 1), (.iconst 3, 1), (.iadd, 1), (.iaload, 1)] = true := by decide +kernel
theorem bL_law_578 : Blk cL_law 9 (some .boolean) false 578 [(.if_icmp .eq 796, 3), (.iconst 0, 1), (.freturn, 1)] = true := by decide +kernel
theorem bL_law_583 : Blk cL_law 9 (some .boolean) false 583 [(.aload 1, 1)] = true := by decide +kernel
theorem bL_law_587 : Blk cL_law 9 (some .boolean) false 587 [(.aload 2, 1)] = true := by decide +kernel
theorem bL_law_591 : Blk cL_law 9 (some .boolean) false 591 [(.if_icmp .eq 796, 3), (.iconst 0, 1), (.freturn, 1)] = true := by decide +kernel
theorem bL_law_596 : Blk cL_law 9 (some .boolean) false 596 [(.aload 1, 1), (.aload 0, 1), (.iload 3, 1), (.iconst 1, 1), (.iadd, 1), (.iaload, 1)] = true := by decide +kernel
theorem bL_law_605 : Blk cL_law 9 (some .boolean) false 605 [(.aload 2, 1), (.aload 0, 1), (.iload 3, 1), (.iconst 1, 1), (.iadd, 1), (.iaload, 1)] = true := by decide +kernel
theorem bL_law_614 : Blk cL_law 9 (some .boolean) false 614 [(.if_icmp .eq 796, 3), (.iconst 0, 1), (.freturn, 1)] = true := by decide +kernel
theorem bL_law_619 : Blk cL_law 9 (some .boolean) false 619 [(.aload 1, 1)] = true := by decide +kernel
theorem bL_law_623 : Blk cL_law 9 (some .boolean) false 623 [(.aload 2, 1)] = true := by decide +kernel
theorem bL_law_627 : Blk cL_law 9 (some .boolean) false 627 [(.if_icmp .eq 796, 3), (.iconst 0, 1), (.freturn, 1)] = true := by decide +kernel
theorem bL_law_632 : Blk cL_law 9 (some .boolean) false 632 [(.aload 1, 1), (.aload 0, 1), (.iload 3, 1), (.iconst 1, 1), (.iadd, 1), (.iaload, 1)] = true := by decide +kernel
theorem bL_law_641 : Blk cL_law 9 (some .boolean) false 641 [(.aload 2, 1), (.aload 0, 1), (.iload 3, 1), (.iconst 1, 1), (.iadd, 1), (.iaload, 1)] = true := by decide +kernel
theorem bL_law_650 : Blk cL_law 9 (some .boolean) false 650 [(.if_icmp .eq 796, 3), (.iconst 0, 1), (.freturn, 1)] = true := by decide +kernel
theorem bL_law_655 : Blk cL_law 9 (some .boolean) false 655 [(.aload 1, 1)] = true := by decide +kernel
theorem bL_law_659 : Blk cL_law 9 (some .boolean) false 659 [(.aload 2, 1)] = true := by decide +kernel
theorem bL_law_663 : Blk cL_law 9 (some .boolean) false 663 [(.if_icmp .eq 796, 3), (.iconst 0, 1), (.freturn, 1)] = true := by decide +kernel
theorem bL_law_668 : Blk cL_law 9 (some .boolean) false 668 [(.aload 1, 1), (.aload 0, 1), (.iload 3, 1), (.iconst 1, 1), (.iadd, 1), (.iaload, 1)] = true := by decide +kernel
theorem bL_law_677 : Blk cL_law 9 (some .boolean) false 677 [(.aload 2, 1), (.aload 0, 1), (.iload 3, 1), (.iconst 1, 1), (.iadd, 1), (.iaload, 1)] = true := by decide +kernel
theorem bL_law_686 : Blk cL_law 9 (some .boolean) false 686 [(.if_icmp .eq 796, 3), (.iconst 0, 1), (.freturn, 1)] = true := by decide +kernel
theorem bL_law_691 : Blk cL_law 9 (some .boolean) false 691 [(.aload 1, 1), (.aload 0, 1), (.iload 3, 1), (.iconst 1, 1), (.iadd, 1), (.iaload, 1)] = true := by decide +kernel
theorem bL_law_700 : Blk cL_law 9 (some .boolean) false 700 [(.aload 2, 1), (.aload 0, 1), (.iload 3, 1), (.iconst 1, 1), (.iadd, 1), (.iaload, 1)] = true := by decide +kernel
theorem bL_law_709 : Blk cL_law 9 (some .boolean) false 709 [(.if_icmp .eq 796, 3), (.iconst 0, 1), (.freturn, 1)] = true := by decide +kernel
theorem bL_law_714 : Blk cL_law 9 (some .boolean) false 714 [(.aload 1, 1)] = true := by decide +kernel
theorem bL_law_718 : Blk cL_law 9 (some .boolean) false 718 [(.aload 2, 1)] = true := by decide +kernel
theorem bL_law_722 : Blk cL_law 9 (some .boolean) false 722 [(.if_icmp .eq 796, 3), (.iconst 0, 1), (.freturn, 1)] = true := by decide +kernel
theorem bL_law_727 : Blk cL_law 9 (some .boolean) false 727 [(.aload 1, 1)] = true := by decide +kernel
theorem bL_law_731 : Blk cL_law 9 (some .boolean) false 731 [(.aload 2, 1)] = true := by decide +kernel
theorem bL_law_735 : Blk cL_law 9 (some .boolean) false 735 [(.if_icmp .eq 796, 3), (.iconst 0, 1), (.freturn, 1)] = true := by decide +kernel
theorem bL_law_740 : Blk cL_law 9 (some .boolean) false 740 [(.aload 1, 1), (.aload 0, 1), (.iload 3, 1), (.iconst 1, 1), (.iadd, 1), (.iaload, 1), (.aload 0, 1), (.iload 3, 1), (.iconst 2, 1), (.iadd, 1), (.iaload, 1)] = true := by decide +kernel
theorem bL_law_754 : Blk cL_law 9 (some .boolean) false 754 [(.aload 2, 1), (.aload 0, 1), (.iload 3, 1), (.iconst 1, 1), (.iadd, 1), (.iaload, 1), (.aload 0, 1), (.iload 3, 1), (.iconst 2, 1), (.iadd, 1), (.iaload, 1)] = true := by decide +kernel
theorem bL_law_768 : Blk cL_law 9 (some .boolean) false 768 [(.if_icmp .eq 796, 3), (.iconst 0, 1), (.freturn, 1)] = true := by decide +kernel
theorem bL_law_773 : Blk cL_law 9 (some .boolean) false 773 [(.aload 1, 1), (.aload 0, 1), (.iload 3, 1), (.iconst 1, 1), (.iadd, 1), (.iaload, 1)] = true := by decide +kernel
theorem bL_law_782 : Blk cL_law 9 (some .boolean) false 782 [(.aload 2, 1), (.aload 0, 1), (.iload 3, 1), (.iconst 1, 1), (.iadd, 1), (.iaload, 1)] = true := by decide +kernel
theorem bL_law_791 : Blk cL_law 9 (some .boolean) false 791 [(.if_icmp .eq 796, 3), (.iconst 0, 1), (.freturn, 1)] = true := by decide +kernel
theorem bL_law_796 : Blk cL_law 9 (some .boolean) false 796 [(.iinc 3 6, 3), (.goto 18, 3)] = true := by decide +kernel
theorem bL_law_802 : Blk cL_law 9 (some .boolean) false 802 [(.iconst 1, 1), (.freturn, 1)] = true := by decide +kernel
