theorem dX6_init_0 : decode cX6_init 0 = .ok (.aload_n 0, 1) := by decide +kernel
theorem dX6_init_1 : decode cX6_init 1 = .ok (.invokespecial 1, 3) := by decide +kernel
theorem dX6_init_4 : decode cX6_init 4 = .ok (.aload_n 0, 1) := by decide +kernel
theorem dX6_init_5 : decode cX6_init 5 = .ok (.sipush 640, 3) := by decide +kernel
theorem dX6_init_8 : decode cX6_init 8 = .ok (.newarray .int, 2) := by decide +kernel
theorem dX6_init_10 : decode cX6_init 10 = .ok (.putfield 7, 3) := by decide +kernel
theorem dX6_init_13 : decode cX6_init 13 = .ok (.aload_n 0, 1) := by decide +kernel
theorem dX6_init_14 : decode cX6_init 14 = .ok (.sipush 7040, 3) := by decide +kernel
theorem dX6_init_17 : decode cX6_init 17 = .ok (.newarray .int, 2) := by decide +kernel
theorem dX6_init_19 : decode cX6_init 19 = .ok (.putfield 13, 3) := by decide +kernel
theorem dX6_init_22 : decode cX6_init 22 = .ok (.aload_n 0, 1) := by decide +kernel
theorem dX6_init_23 : decode cX6_init 23 = .ok (.iconst 2, 1) := by decide +kernel
theorem dX6_init_24 : decode cX6_init 24 = .ok (.newarray .boolean, 2) := by decide +kernel
theorem dX6_init_26 : decode cX6_init 26 = .ok (.putfield 16, 3) := by decide +kernel
theorem dX6_init_29 : decode cX6_init 29 = .ok (.aload_n 0, 1) := by decide +kernel
theorem dX6_init_30 : decode cX6_init 30 = .ok (.sipush 700, 3) := by decide +kernel
theorem dX6_init_33 : decode cX6_init 33 = .ok (.newarray .int, 2) := by decide +kernel
theorem dX6_init_35 : decode cX6_init 35 = .ok (.putfield 20, 3) := by decide +kernel
theorem dX6_init_38 : decode cX6_init 38 = .ok (.aload_n 0, 1) := by decide +kernel
theorem dX6_init_39 : decode cX6_init 39 = .ok (.iconst (-1), 1) := by decide +kernel
theorem dX6_init_40 : decode cX6_init 40 = .ok (.putfield 23, 3) := by decide +kernel
theorem dX6_init_43 : decode cX6_init 43 = .ok (.aload_n 0, 1) := by decide +kernel
theorem dX6_init_44 : decode cX6_init 44 = .ok (.bipush 96, 2) := by decide +kernel
theorem dX6_init_46 : decode cX6_init 46 = .ok (.newarray .int, 2) := by decide +kernel
theorem dX6_init_48 : decode cX6_init 48 = .ok (.putfield 27, 3) := by decide +kernel
theorem dX6_init_51 : decode cX6_init 51 = .ok (.aload_n 0, 1) := by decide +kernel
theorem dX6_init_52 : decode cX6_init 52 = .ok (.sipush 1000, 3) := by decide +kernel
theorem dX6_init_55 : decode cX6_init 55 = .ok (.newarray .int, 2) := by decide +kernel
theorem dX6_init_57 : decode cX6_init 57 = .ok (.putfield 30, 3) := by decide +kernel
theorem dX6_init_60 : decode cX6_init 60 = .ok (.return_, 1) := by decide +kernel
theorem dX6_thrown_0 : decode cX6_thrown 0 = .ok (.aload_n 0, 1) := by decide +kernel
theorem dX6_thrown_1 : decode cX6_thrown 1 = .ok (.getfield 33, 3) := by decide +kernel
theorem dX6_thrown_4 : decode cX6_thrown 4 = .ok (.ireturn, 1) := by decide +kernel
theorem dX6_in_0 : decode cX6_in 0 = .ok (.iload_n 0, 1) := by decide +kernel
theorem dX6_in_1 : decode cX6_in 1 = .ok (.iload_n 1, 1) := by decide +kernel
theorem dX6_in_2 : decode cX6_in 2 = .ok (.if_icmp .lt 12, 3) := by decide +kernel
theorem dX6_in_5 : decode cX6_in 5 = .ok (.iload_n 0, 1) := by decide +kernel
theorem dX6_in_6 : decode cX6_in 6 = .ok (.iload_n 2, 1) := by decide +kernel
theorem dX6_in_7 : decode cX6_in 7 = .ok (.if_icmp .gt 7, 3) := by decide +kernel
theorem dX6_in_10 : decode cX6_in 10 = .ok (.iconst 1, 1) := by decide +kernel
theorem dX6_in_11 : decode cX6_in 11 = .ok (.goto 4, 3) := by decide +kernel
theorem dX6_in_14 : decode cX6_in 14 = .ok (.iconst 0, 1) := by decide +kernel
theorem dX6_in_15 : decode cX6_in 15 = .ok (.ireturn, 1) := by decide +kernel
theorem dX6_flag_0 : decode cX6_flag 0 = .ok (.iload_n 0, 1) := by decide +kernel
theorem dX6_flag_1 : decode cX6_flag 1 = .ok (.ifCond .eq 7, 3) := by decide +kernel
theorem dX6_flag_4 : decode cX6_flag 4 = .ok (.iconst 1, 1) := by decide +kernel
theorem dX6_flag_5 : decode cX6_flag 5 = .ok (.goto 4, 3) := by decide +kernel
theorem dX6_flag_8 : decode cX6_flag 8 = .ok (.iconst 0, 1) := by decide +kernel
theorem dX6_flag_9 : decode cX6_flag 9 = .ok (.ireturn, 1) := by decide +kernel
theorem dX6_refuse_0 : decode cX6_refuse 0 = .ok (.aload_n 0, 1) := by decide +kernel
theorem dX6_refuse_1 : decode cX6_refuse 1 = .ok (.getfield 33, 3) := by decide +kernel
theorem dX6_refuse_4 : decode cX6_refuse 4 = .ok (.ifCond .ne 12, 3) := by decide +kernel
theorem dX6_refuse_7 : decode cX6_refuse 7 = .ok (.iload_n 1, 1) := by decide +kernel
theorem dX6_refuse_8 : decode cX6_refuse 8 = .ok (.ifCond .eq 8, 3) := by decide +kernel
theorem dX6_refuse_11 : decode cX6_refuse 11 = .ok (.aload_n 0, 1) := by decide +kernel
theorem dX6_refuse_12 : decode cX6_refuse 12 = .ok (.iload_n 2, 1) := by decide +kernel
theorem dX6_refuse_13 : decode cX6_refuse 13 = .ok (.putfield 33, 3) := by decide +kernel
theorem dX6_refuse_16 : decode cX6_refuse 16 = .ok (.aload_n 0, 1) := by decide +kernel
theorem dX6_refuse_17 : decode cX6_refuse 17 = .ok (.getfield 33, 3) := by decide +kernel
theorem dX6_refuse_20 : decode cX6_refuse 20 = .ok (.ifCond .eq 7, 3) := by decide +kernel
theorem dX6_refuse_23 : decode cX6_refuse 23 = .ok (.iconst 1, 1) := by decide +kernel
theorem dX6_refuse_24 : decode cX6_refuse 24 = .ok (.goto 4, 3) := by decide +kernel
theorem dX6_refuse_27 : decode cX6_refuse 27 = .ok (.iconst 0, 1) := by decide +kernel
theorem dX6_refuse_28 : decode cX6_refuse 28 = .ok (.ireturn, 1) := by decide +kernel
theorem dX6_noMemory_0 : decode cX6_noMemory 0 = .ok (.aload_n 0, 1) := by decide +kernel
theorem dX6_noMemory_1 : decode cX6_noMemory 1 = .ok (.iconst 0, 1) := by decide +kernel
theorem dX6_noMemory_2 : decode cX6_noMemory 2 = .ok (.putfield 33, 3) := by decide +kernel
theorem dX6_noMemory_5 : decode cX6_noMemory 5 = .ok (.aload_n 0, 1) := by decide +kernel
theorem dX6_noMemory_6 : decode cX6_noMemory 6 = .ok (.aload_n 0, 1) := by decide +kernel
theorem dX6_noMemory_7 : decode cX6_noMemory 7 = .ok (.getfield 36, 3) := by decide +kernel
theorem dX6_noMemory_10 : decode cX6_noMemory 10 = .ok (.ifCond .ne 7, 3) := by decide +kernel
theorem dX6_noMemory_13 : decode cX6_noMemory 13 = .ok (.iconst 1, 1) := by decide +kernel
theorem dX6_noMemory_14 : decode cX6_noMemory 14 = .ok (.goto 4, 3) := by decide +kernel
theorem dX6_noMemory_17 : decode cX6_noMemory 17 = .ok (.iconst 0, 1) := by decide +kernel
theorem dX6_noMemory_18 : decode cX6_noMemory 18 = .ok (.iconst 1, 1) := by decide +kernel
theorem dX6_noMemory_19 : decode cX6_noMemory 19 = .ok (.invokevirtual 40, 3) := by decide +kernel
theorem dX6_noMemory_22 : decode cX6_noMemory 22 = .ok (.ireturn, 1) := by decide +kernel
theorem dX6_append_0 : decode cX6_append 0 = .ok (.aload_n 0, 1) := by decide +kernel
theorem dX6_append_1 : decode cX6_append 1 = .ok (.iconst 0, 1) := by decide +kernel
theorem dX6_append_2 : decode cX6_append 2 = .ok (.putfield 33, 3) := by decide +kernel
theorem dX6_append_5 : decode cX6_append 5 = .ok (.aload_n 0, 1) := by decide +kernel
theorem dX6_append_6 : decode cX6_append 6 = .ok (.getfield 44, 3) := by decide +kernel
theorem dX6_append_9 : decode cX6_append 9 = .ok (.bipush 20, 2) := by decide +kernel
theorem dX6_append_11 : decode cX6_append 11 = .ok (.iadd, 1) := by decide +kernel
theorem dX6_append_12 : decode cX6_append 12 = .ok (.sipush 700, 3) := by decide +kernel
theorem dX6_append_15 : decode cX6_append 15 = .ok (.if_icmp .le 5, 3) := by decide +kernel
theorem dX6_append_18 : decode cX6_append 18 = .ok (.iconst (-1), 1) := by decide +kernel
theorem dX6_append_19 : decode cX6_append 19 = .ok (.ireturn, 1) := by decide +kernel
theorem dX6_append_20 : decode cX6_append 20 = .ok (.iconst 0, 1) := by decide +kernel
theorem dX6_append_21 : decode cX6_append 21 = .ok (.istore 6, 2) := by decide +kernel
theorem dX6_append_23 : decode cX6_append 23 = .ok (.iload 6, 2) := by decide +kernel
theorem dX6_append_25 : decode cX6_append 25 = .ok (.bipush 20, 2) := by decide +kernel
theorem dX6_append_27 : decode cX6_append 27 = .ok (.if_icmp .ge 86, 3) := by decide +kernel
theorem dX6_append_30 : decode cX6_append 30 = .ok (.iload 6, 2) := by decide +kernel
theorem dX6_append_32 : decode cX6_append 32 = .ok (.iconst 4, 1) := by decide +kernel
theorem dX6_append_33 : decode cX6_append 33 = .ok (.if_icmp .ge 7, 3) := by decide +kernel
theorem dX6_append_36 : decode cX6_append 36 = .ok (.iload_n 1, 1) := by decide +kernel
theorem dX6_append_37 : decode cX6_append 37 = .ok (.goto 39, 3) := by decide +kernel
theorem dX6_append_40 : decode cX6_append 40 = .ok (.iload 6, 2) := by decide +kernel
theorem dX6_append_42 : decode cX6_append 42 = .ok (.bipush 8, 2) := by decide +kernel
theorem dX6_append_44 : decode cX6_append 44 = .ok (.if_icmp .ge 7, 3) := by decide +kernel
theorem dX6_append_47 : decode cX6_append 47 = .ok (.iload_n 2, 1) := by decide +kernel
theorem dX6_append_48 : decode cX6_append 48 = .ok (.goto 28, 3) := by decide +kernel
theorem dX6_append_51 : decode cX6_append 51 = .ok (.iload 6, 2) := by decide +kernel
theorem dX6_append_53 : decode cX6_append 53 = .ok (.bipush 12, 2) := by decide +kernel
theorem dX6_append_55 : decode cX6_append 55 = .ok (.if_icmp .ge 7, 3) := by decide +kernel
theorem dX6_append_58 : decode cX6_append 58 = .ok (.iload_n 3, 1) := by decide +kernel
theorem dX6_append_59 : decode cX6_append 59 = .ok (.goto 17, 3) := by decide +kernel
theorem dX6_append_62 : decode cX6_append 62 = .ok (.iload 6, 2) := by decide +kernel
theorem dX6_append_64 : decode cX6_append 64 = .ok (.bipush 16, 2) := by decide +kernel
theorem dX6_append_66 : decode cX6_append 66 = .ok (.if_icmp .ge 8, 3) := by decide +kernel
theorem dX6_append_69 : decode cX6_append 69 = .ok (.iload 4, 2) := by decide +kernel
theorem dX6_append_71 : decode cX6_append 71 = .ok (.goto 5, 3) := by decide +kernel
theorem dX6_append_74 : decode cX6_append 74 = .ok (.iload 5, 2) := by decide +kernel
theorem dX6_append_76 : decode cX6_append 76 = .ok (.istore 7, 2) := by decide +kernel
theorem dX6_append_78 : decode cX6_append 78 = .ok (.aload_n 0, 1) := by decide +kernel
theorem dX6_append_79 : decode cX6_append 79 = .ok (.getfield 20, 3) := by decide +kernel
theorem dX6_append_82 : decode cX6_append 82 = .ok (.aload_n 0, 1) := by decide +kernel
theorem dX6_append_83 : decode cX6_append 83 = .ok (.getfield 44, 3) := by decide +kernel
theorem dX6_append_86 : decode cX6_append 86 = .ok (.iload 6, 2) := by decide +kernel
theorem dX6_append_88 : decode cX6_append 88 = .ok (.iadd, 1) := by decide +kernel
theorem dX6_append_89 : decode cX6_append 89 = .ok (.iload 7, 2) := by decide +kernel
theorem dX6_append_91 : decode cX6_append 91 = .ok (.bipush 24, 2) := by decide +kernel
theorem dX6_append_93 : decode cX6_append 93 = .ok (.bipush 8, 2) := by decide +kernel
theorem dX6_append_95 : decode cX6_append 95 = .ok (.iload 6, 2) := by decide +kernel
theorem dX6_append_97 : decode cX6_append 97 = .ok (.iconst 4, 1) := by decide +kernel
theorem dX6_append_98 : decode cX6_append 98 = .ok (.irem, 1) := by decide +kernel
theorem dX6_append_99 : decode cX6_append 99 = .ok (.imul, 1) := by decide +kernel
theorem dX6_append_100 : decode cX6_append 100 = .ok (.isub, 1) := by decide +kernel
theorem dX6_append_101 : decode cX6_append 101 = .ok (.ishr, 1) := by decide +kernel
theorem dX6_append_102 : decode cX6_append 102 = .ok (.sipush 255, 3) := by decide +kernel
theorem dX6_append_105 : decode cX6_append 105 = .ok (.iand, 1) := by decide +kernel
theorem dX6_append_106 : decode cX6_append 106 = .ok (.iastore, 1) := by decide +kernel
theorem dX6_append_107 : decode cX6_append 107 = .ok (.iinc 6 1, 3) := by decide +kernel
theorem dX6_append_110 : decode cX6_append 110 = .ok (.goto (-87), 3) := by decide +kernel
theorem dX6_append_113 : decode cX6_append 113 = .ok (.aload_n 0, 1) := by decide +kernel
theorem dX6_append_114 : decode cX6_append 114 = .ok (.dup, 1) := by decide +kernel
theorem dX6_append_115 : decode cX6_append 115 = .ok (.getfield 44, 3) := by decide +kernel
theorem dX6_append_118 : decode cX6_append 118 = .ok (.bipush 20, 2) := by decide +kernel
theorem dX6_append_120 : decode cX6_append 120 = .ok (.iadd, 1) := by decide +kernel
theorem dX6_append_121 : decode cX6_append 121 = .ok (.putfield 44, 3) := by decide +kernel
theorem dX6_append_124 : decode cX6_append 124 = .ok (.aload_n 0, 1) := by decide +kernel
theorem dX6_append_125 : decode cX6_append 125 = .ok (.getfield 44, 3) := by decide +kernel
theorem dX6_append_128 : decode cX6_append 128 = .ok (.ireturn, 1) := by decide +kernel
theorem dX6_buffered_0 : decode cX6_buffered 0 = .ok (.aload_n 0, 1) := by decide +kernel
theorem dX6_buffered_1 : decode cX6_buffered 1 = .ok (.iconst 0, 1) := by decide +kernel
theorem dX6_buffered_2 : decode cX6_buffered 2 = .ok (.putfield 33, 3) := by decide +kernel
theorem dX6_buffered_5 : decode cX6_buffered 5 = .ok (.aload_n 0, 1) := by decide +kernel
theorem dX6_buffered_6 : decode cX6_buffered 6 = .ok (.getfield 44, 3) := by decide +kernel
theorem dX6_buffered_9 : decode cX6_buffered 9 = .ok (.ireturn, 1) := by decide +kernel
theorem dX6_parseError_0 : decode cX6_parseError 0 = .ok (.aload_n 0, 1) := by decide +kernel
theorem dX6_parseError_1 : decode cX6_parseError 1 = .ok (.iconst 0, 1) := by decide +kernel
theorem dX6_parseError_2 : decode cX6_parseError 2 = .ok (.putfield 33, 3) := by decide +kernel
theorem dX6_parseError_5 : decode cX6_parseError 5 = .ok (.aload_n 0, 1) := by decide +kernel
theorem dX6_parseError_6 : decode cX6_parseError 6 = .ok (.getfield 47, 3) := by decide +kernel
theorem dX6_parseError_9 : decode cX6_parseError 9 = .ok (.ireturn, 1) := by decide +kernel
theorem dX6_errorPosition_0 : decode cX6_errorPosition 0 = .ok (.aload_n 0, 1) := by decide +kernel
theorem dX6_errorPosition_1 : decode cX6_errorPosition 1 = .ok (.iconst 0, 1) := by decide +kernel
theorem dX6_errorPosition_2 : decode cX6_errorPosition 2 = .ok (.putfield 33, 3) := by decide +kernel
theorem dX6_errorPosition_5 : decode cX6_errorPosition 5 = .ok (.aload_n 0, 1) := by decide +kernel
theorem dX6_errorPosition_6 : decode cX6_errorPosition 6 = .ok (.getfield 23, 3) := by decide +kernel
theorem dX6_errorPosition_9 : decode cX6_errorPosition 9 = .ok (.ireturn, 1) := by decide +kernel
theorem dX6_seen_0 : decode cX6_seen 0 = .ok (.iload_n 1, 1) := by decide +kernel
theorem dX6_seen_1 : decode cX6_seen 1 = .ok (.aload_n 0, 1) := by decide +kernel
theorem dX6_seen_2 : decode cX6_seen 2 = .ok (.getfield 50, 3) := by decide +kernel
theorem dX6_seen_5 : decode cX6_seen 5 = .ok (.if_icmp .ge 12, 3) := by decide +kernel
theorem dX6_seen_8 : decode cX6_seen 8 = .ok (.aload_n 0, 1) := by decide +kernel
theorem dX6_seen_9 : decode cX6_seen 9 = .ok (.getfield 20, 3) := by decide +kernel
theorem dX6_seen_12 : decode cX6_seen 12 = .ok (.iload_n 1, 1) := by decide +kernel
theorem dX6_seen_13 : decode cX6_seen 13 = .ok (.iaload, 1) := by decide +kernel
theorem dX6_seen_14 : decode cX6_seen 14 = .ok (.goto 4, 3) := by decide +kernel
theorem dX6_seen_17 : decode cX6_seen 17 = .ok (.iconst (-1), 1) := by decide +kernel
theorem dX6_seen_18 : decode cX6_seen 18 = .ok (.ireturn, 1) := by decide +kernel
theorem dX6_isLetter_0 : decode cX6_isLetter 0 = .ok (.iload_n 0, 1) := by decide +kernel
theorem dX6_isLetter_1 : decode cX6_isLetter 1 = .ok (.bipush 97, 2) := by decide +kernel
theorem dX6_isLetter_3 : decode cX6_isLetter 3 = .ok (.if_icmp .lt 13, 3) := by decide +kernel
theorem dX6_isLetter_6 : decode cX6_isLetter 6 = .ok (.iload_n 0, 1) := by decide +kernel
theorem dX6_isLetter_7 : decode cX6_isLetter 7 = .ok (.bipush 122, 2) := by decide +kernel
theorem dX6_isLetter_9 : decode cX6_isLetter 9 = .ok (.if_icmp .gt 7, 3) := by decide +kernel
theorem dX6_isLetter_12 : decode cX6_isLetter 12 = .ok (.iconst 1, 1) := by decide +kernel
theorem dX6_isLetter_13 : decode cX6_isLetter 13 = .ok (.goto 4, 3) := by decide +kernel
theorem dX6_isLetter_16 : decode cX6_isLetter 16 = .ok (.iconst 0, 1) := by decide +kernel
theorem dX6_isLetter_17 : decode cX6_isLetter 17 = .ok (.ireturn, 1) := by decide +kernel
theorem dX6_isDigit_0 : decode cX6_isDigit 0 = .ok (.iload_n 0, 1) := by decide +kernel
theorem dX6_isDigit_1 : decode cX6_isDigit 1 = .ok (.bipush 48, 2) := by decide +kernel
theorem dX6_isDigit_3 : decode cX6_isDigit 3 = .ok (.if_icmp .lt 13, 3) := by decide +kernel
theorem dX6_isDigit_6 : decode cX6_isDigit 6 = .ok (.iload_n 0, 1) := by decide +kernel
theorem dX6_isDigit_7 : decode cX6_isDigit 7 = .ok (.bipush 57, 2) := by decide +kernel
theorem dX6_isDigit_9 : decode cX6_isDigit 9 = .ok (.if_icmp .gt 7, 3) := by decide +kernel
theorem dX6_isDigit_12 : decode cX6_isDigit 12 = .ok (.iconst 1, 1) := by decide +kernel
theorem dX6_isDigit_13 : decode cX6_isDigit 13 = .ok (.goto 4, 3) := by decide +kernel
theorem dX6_isDigit_16 : decode cX6_isDigit 16 = .ok (.iconst 0, 1) := by decide +kernel
theorem dX6_isDigit_17 : decode cX6_isDigit 17 = .ok (.ireturn, 1) := by decide +kernel
theorem dX6_token_0 : decode cX6_token 0 = .ok (.aload_n 0, 1) := by decide +kernel
theorem dX6_token_1 : decode cX6_token 1 = .ok (.aload_n 0, 1) := by decide +kernel
theorem dX6_token_2 : decode cX6_token 2 = .ok (.getfield 53, 3) := by decide +kernel
theorem dX6_token_5 : decode cX6_token 5 = .ok (.invokevirtual 56, 3) := by decide +kernel
theorem dX6_token_8 : decode cX6_token 8 = .ok (.bipush 32, 2) := by decide +kernel
theorem dX6_token_10 : decode cX6_token 10 = .ok (.if_icmp .ne 16, 3) := by decide +kernel
theorem dX6_token_13 : decode cX6_token 13 = .ok (.aload_n 0, 1) := by decide +kernel
theorem dX6_token_14 : decode cX6_token 14 = .ok (.dup, 1) := by decide +kernel
theorem dX6_token_15 : decode cX6_token 15 = .ok (.getfield 53, 3) := by decide +kernel
theorem dX6_token_18 : decode cX6_token 18 = .ok (.iconst 1, 1) := by decide +kernel
theorem dX6_token_19 : decode cX6_token 19 = .ok (.iadd, 1) := by decide +kernel
theorem dX6_token_20 : decode cX6_token 20 = .ok (.putfield 53, 3) := by decide +kernel
theorem dX6_token_23 : decode cX6_token 23 = .ok (.goto (-23), 3) := by decide +kernel
theorem dX6_token_26 : decode cX6_token 26 = .ok (.aload_n 0, 1) := by decide +kernel
theorem dX6_token_27 : decode cX6_token 27 = .ok (.aload_n 0, 1) := by decide +kernel
theorem dX6_token_28 : decode cX6_token 28 = .ok (.getfield 53, 3) := by decide +kernel
theorem dX6_token_31 : decode cX6_token 31 = .ok (.putfield 60, 3) := by decide +kernel
theorem dX6_token_34 : decode cX6_token 34 = .ok (.aload_n 0, 1) := by decide +kernel
theorem dX6_token_35 : decode cX6_token 35 = .ok (.aload_n 0, 1) := by decide +kernel
theorem dX6_token_36 : decode cX6_token 36 = .ok (.getfield 53, 3) := by decide +kernel
theorem dX6_token_39 : decode cX6_token 39 = .ok (.invokevirtual 56, 3) := by decide +kernel
theorem dX6_token_42 : decode cX6_token 42 = .ok (.istore_n 1, 1) := by decide +kernel
theorem dX6_token_43 : decode cX6_token 43 = .ok (.iload_n 1, 1) := by decide +kernel
theorem dX6_token_44 : decode cX6_token 44 = .ok (.iconst (-1), 1) := by decide +kernel
theorem dX6_token_45 : decode cX6_token 45 = .ok (.if_icmp .ne 11, 3) := by decide +kernel
theorem dX6_token_48 : decode cX6_token 48 = .ok (.aload_n 0, 1) := by decide +kernel
theorem dX6_token_49 : decode cX6_token 49 = .ok (.iconst 0, 1) := by decide +kernel
theorem dX6_token_50 : decode cX6_token 50 = .ok (.putfield 63, 3) := by decide +kernel
theorem dX6_token_53 : decode cX6_token 53 = .ok (.goto 192, 3) := by decide +kernel
theorem dX6_token_56 : decode cX6_token 56 = .ok (.iload_n 1, 1) := by decide +kernel
theorem dX6_token_57 : decode cX6_token 57 = .ok (.invokestatic 66, 3) := by decide +kernel
theorem dX6_token_60 : decode cX6_token 60 = .ok (.ifCond .eq 56, 3) := by decide +kernel
theorem dX6_token_63 : decode cX6_token 63 = .ok (.aload_n 0, 1) := by decide +kernel
theorem dX6_token_64 : decode cX6_token 64 = .ok (.aload_n 0, 1) := by decide +kernel
theorem dX6_token_65 : decode cX6_token 65 = .ok (.getfield 53, 3) := by decide +kernel
theorem dX6_token_68 : decode cX6_token 68 = .ok (.invokevirtual 56, 3) := by decide +kernel
theorem dX6_token_71 : decode cX6_token 71 = .ok (.invokestatic 66, 3) := by decide +kernel
theorem dX6_token_74 : decode cX6_token 74 = .ok (.ifCond .eq 16, 3) := by decide +kernel
theorem dX6_token_77 : decode cX6_token 77 = .ok (.aload_n 0, 1) := by decide +kernel
theorem dX6_token_78 : decode cX6_token 78 = .ok (.dup, 1) := by decide +kernel
theorem dX6_token_79 : decode cX6_token 79 = .ok (.getfield 53, 3) := by decide +kernel
theorem dX6_token_82 : decode cX6_token 82 = .ok (.iconst 1, 1) := by decide +kernel
theorem dX6_token_83 : decode cX6_token 83 = .ok (.iadd, 1) := by decide +kernel
theorem dX6_token_84 : decode cX6_token 84 = .ok (.putfield 53, 3) := by decide +kernel
theorem dX6_token_87 : decode cX6_token 87 = .ok (.goto (-24), 3) := by decide +kernel
theorem dX6_token_90 : decode cX6_token 90 = .ok (.aload_n 0, 1) := by decide +kernel
theorem dX6_token_91 : decode cX6_token 91 = .ok (.aload_n 0, 1) := by decide +kernel
theorem dX6_token_92 : decode cX6_token 92 = .ok (.getfield 53, 3) := by decide +kernel
theorem dX6_token_95 : decode cX6_token 95 = .ok (.aload_n 0, 1) := by decide +kernel
theorem dX6_token_96 : decode cX6_token 96 = .ok (.getfield 60, 3) := by decide +kernel
theorem dX6_token_99 : decode cX6_token 99 = .ok (.isub, 1) := by decide +kernel
theorem dX6_token_100 : decode cX6_token 100 = .ok (.bipush 8, 2) := by decide +kernel
theorem dX6_token_102 : decode cX6_token 102 = .ok (.if_icmp .le 7, 3) := by decide +kernel
theorem dX6_token_105 : decode cX6_token 105 = .ok (.iconst 4, 1) := by decide +kernel
theorem dX6_token_106 : decode cX6_token 106 = .ok (.goto 4, 3) := by decide +kernel
theorem dX6_token_109 : decode cX6_token 109 = .ok (.iconst 1, 1) := by decide +kernel
theorem dX6_token_110 : decode cX6_token 110 = .ok (.putfield 63, 3) := by decide +kernel
theorem dX6_token_113 : decode cX6_token 113 = .ok (.goto 132, 3) := by decide +kernel
theorem dX6_token_116 : decode cX6_token 116 = .ok (.iload_n 1, 1) := by decide +kernel
theorem dX6_token_117 : decode cX6_token 117 = .ok (.invokestatic 70, 3) := by decide +kernel
theorem dX6_token_120 : decode cX6_token 120 = .ok (.ifCond .eq 100, 3) := by decide +kernel
theorem dX6_token_123 : decode cX6_token 123 = .ok (.aload_n 0, 1) := by decide +kernel
theorem dX6_token_124 : decode cX6_token 124 = .ok (.iconst 0, 1) := by decide +kernel
theorem dX6_token_125 : decode cX6_token 125 = .ok (.putfield 73, 3) := by decide +kernel
theorem dX6_token_128 : decode cX6_token 128 = .ok (.aload_n 0, 1) := by decide +kernel
theorem dX6_token_129 : decode cX6_token 129 = .ok (.aload_n 0, 1) := by decide +kernel
theorem dX6_token_130 : decode cX6_token 130 = .ok (.getfield 53, 3) := by decide +kernel
theorem dX6_token_133 : decode cX6_token 133 = .ok (.invokevirtual 56, 3) := by decide +kernel
theorem dX6_token_136 : decode cX6_token 136 = .ok (.invokestatic 70, 3) := by decide +kernel
theorem dX6_token_139 : decode cX6_token 139 = .ok (.ifCond .eq 56, 3) := by decide +kernel
theorem dX6_token_142 : decode cX6_token 142 = .ok (.aload_n 0, 1) := by decide +kernel
theorem dX6_token_143 : decode cX6_token 143 = .ok (.aload_n 0, 1) := by decide +kernel
theorem dX6_token_144 : decode cX6_token 144 = .ok (.getfield 53, 3) := by decide +kernel
theorem dX6_token_147 : decode cX6_token 147 = .ok (.aload_n 0, 1) := by decide +kernel
theorem dX6_token_148 : decode cX6_token 148 = .ok (.getfield 60, 3) := by decide +kernel
theorem dX6_token_151 : decode cX6_token 151 = .ok (.isub, 1) := by decide +kernel
theorem dX6_token_152 : decode cX6_token 152 = .ok (.iconst 3, 1) := by decide +kernel
theorem dX6_token_153 : decode cX6_token 153 = .ok (.if_icmp .ge 25, 3) := by decide +kernel
theorem dX6_token_156 : decode cX6_token 156 = .ok (.bipush 10, 2) := by decide +kernel
theorem dX6_token_158 : decode cX6_token 158 = .ok (.aload_n 0, 1) := by decide +kernel
theorem dX6_token_159 : decode cX6_token 159 = .ok (.getfield 73, 3) := by decide +kernel
theorem dX6_token_162 : decode cX6_token 162 = .ok (.imul, 1) := by decide +kernel
theorem dX6_token_163 : decode cX6_token 163 = .ok (.aload_n 0, 1) := by decide +kernel
theorem dX6_token_164 : decode cX6_token 164 = .ok (.aload_n 0, 1) := by decide +kernel
theorem dX6_token_165 : decode cX6_token 165 = .ok (.getfield 53, 3) := by decide +kernel
theorem dX6_token_168 : decode cX6_token 168 = .ok (.invokevirtual 56, 3) := by decide +kernel
theorem dX6_token_171 : decode cX6_token 171 = .ok (.iadd, 1) := by decide +kernel
theorem dX6_token_172 : decode cX6_token 172 = .ok (.bipush 48, 2) := by decide +kernel
theorem dX6_token_174 : decode cX6_token 174 = .ok (.isub, 1) := by decide +kernel
theorem dX6_token_175 : decode cX6_token 175 = .ok (.goto 4, 3) := by decide +kernel
theorem dX6_token_178 : decode cX6_token 178 = .ok (.iconst 0, 1) := by decide +kernel
theorem dX6_token_179 : decode cX6_token 179 = .ok (.putfield 73, 3) := by decide +kernel
theorem dX6_token_182 : decode cX6_token 182 = .ok (.aload_n 0, 1) := by decide +kernel
theorem dX6_token_183 : decode cX6_token 183 = .ok (.dup, 1) := by decide +kernel
theorem dX6_token_184 : decode cX6_token 184 = .ok (.getfield 53, 3) := by decide +kernel
theorem dX6_token_187 : decode cX6_token 187 = .ok (.iconst 1, 1) := by decide +kernel
theorem dX6_token_188 : decode cX6_token 188 = .ok (.iadd, 1) := by decide +kernel
theorem dX6_token_189 : decode cX6_token 189 = .ok (.putfield 53, 3) := by decide +kernel
theorem dX6_token_192 : decode cX6_token 192 = .ok (.goto (-64), 3) := by decide +kernel
theorem dX6_token_195 : decode cX6_token 195 = .ok (.aload_n 0, 1) := by decide +kernel
theorem dX6_token_196 : decode cX6_token 196 = .ok (.aload_n 0, 1) := by decide +kernel
theorem dX6_token_197 : decode cX6_token 197 = .ok (.getfield 53, 3) := by decide +kernel
theorem dX6_token_200 : decode cX6_token 200 = .ok (.aload_n 0, 1) := by decide +kernel
theorem dX6_token_201 : decode cX6_token 201 = .ok (.getfield 60, 3) := by decide +kernel
theorem dX6_token_204 : decode cX6_token 204 = .ok (.isub, 1) := by decide +kernel
theorem dX6_token_205 : decode cX6_token 205 = .ok (.iconst 3, 1) := by decide +kernel
theorem dX6_token_206 : decode cX6_token 206 = .ok (.if_icmp .le 7, 3) := by decide +kernel
theorem dX6_token_209 : decode cX6_token 209 = .ok (.iconst 4, 1) := by decide +kernel
theorem dX6_token_210 : decode cX6_token 210 = .ok (.goto 4, 3) := by decide +kernel
theorem dX6_token_213 : decode cX6_token 213 = .ok (.iconst 2, 1) := by decide +kernel
theorem dX6_token_214 : decode cX6_token 214 = .ok (.putfield 63, 3) := by decide +kernel
theorem dX6_token_217 : decode cX6_token 217 = .ok (.goto 28, 3) := by decide +kernel
theorem dX6_token_220 : decode cX6_token 220 = .ok (.aload_n 0, 1) := by decide +kernel
theorem dX6_token_221 : decode cX6_token 221 = .ok (.iload_n 1, 1) := by decide +kernel
theorem dX6_token_222 : decode cX6_token 222 = .ok (.bipush 59, 2) := by decide +kernel
theorem dX6_token_224 : decode cX6_token 224 = .ok (.if_icmp .ne 7, 3) := by decide +kernel
theorem dX6_token_227 : decode cX6_token 227 = .ok (.iconst 3, 1) := by decide +kernel
theorem dX6_token_228 : decode cX6_token 228 = .ok (.goto 4, 3) := by decide +kernel
theorem dX6_token_231 : decode cX6_token 231 = .ok (.iconst 4, 1) := by decide +kernel
theorem dX6_token_232 : decode cX6_token 232 = .ok (.putfield 63, 3) := by decide +kernel
theorem dX6_token_235 : decode cX6_token 235 = .ok (.aload_n 0, 1) := by decide +kernel
theorem dX6_token_236 : decode cX6_token 236 = .ok (.dup, 1) := by decide +kernel
theorem dX6_token_237 : decode cX6_token 237 = .ok (.getfield 53, 3) := by decide +kernel
theorem dX6_token_240 : decode cX6_token 240 = .ok (.iconst 1, 1) := by decide +kernel
theorem dX6_token_241 : decode cX6_token 241 = .ok (.iadd, 1) := by decide +kernel
theorem dX6_token_242 : decode cX6_token 242 = .ok (.putfield 53, 3) := by decide +kernel
theorem dX6_token_245 : decode cX6_token 245 = .ok (.return_, 1) := by decide +kernel
theorem dX6_fails_0 : decode cX6_fails 0 = .ok (.aload_n 0, 1) := by decide +kernel
theorem dX6_fails_1 : decode cX6_fails 1 = .ok (.getfield 76, 3) := by decide +kernel
theorem dX6_fails_4 : decode cX6_fails 4 = .ok (.ifCond .ne 16, 3) := by decide +kernel
theorem dX6_fails_7 : decode cX6_fails 7 = .ok (.aload_n 0, 1) := by decide +kernel
theorem dX6_fails_8 : decode cX6_fails 8 = .ok (.iload_n 1, 1) := by decide +kernel
theorem dX6_fails_9 : decode cX6_fails 9 = .ok (.putfield 76, 3) := by decide +kernel
theorem dX6_fails_12 : decode cX6_fails 12 = .ok (.aload_n 0, 1) := by decide +kernel
theorem dX6_fails_13 : decode cX6_fails 13 = .ok (.aload_n 0, 1) := by decide +kernel
theorem dX6_fails_14 : decode cX6_fails 14 = .ok (.getfield 60, 3) := by decide +kernel
theorem dX6_fails_17 : decode cX6_fails 17 = .ok (.putfield 79, 3) := by decide +kernel
theorem dX6_fails_20 : decode cX6_fails 20 = .ok (.return_, 1) := by decide +kernel
theorem dX6_failsIf_0 : decode cX6_failsIf 0 = .ok (.iload_n 1, 1) := by decide +kernel
theorem dX6_failsIf_1 : decode cX6_failsIf 1 = .ok (.ifCond .eq 8, 3) := by decide +kernel
theorem dX6_failsIf_4 : decode cX6_failsIf 4 = .ok (.aload_n 0, 1) := by decide +kernel
theorem dX6_failsIf_5 : decode cX6_failsIf 5 = .ok (.iload_n 2, 1) := by decide +kernel
theorem dX6_failsIf_6 : decode cX6_failsIf 6 = .ok (.invokevirtual 82, 3) := by decide +kernel
theorem dX6_failsIf_9 : decode cX6_failsIf 9 = .ok (.return_, 1) := by decide +kernel
theorem dX6_goesOn_0 : decode cX6_goesOn 0 = .ok (.aload_n 0, 1) := by decide +kernel
theorem dX6_goesOn_1 : decode cX6_goesOn 1 = .ok (.getfield 76, 3) := by decide +kernel
theorem dX6_goesOn_4 : decode cX6_goesOn 4 = .ok (.ifCond .ne 7, 3) := by decide +kernel
theorem dX6_goesOn_7 : decode cX6_goesOn 7 = .ok (.aload_n 0, 1) := by decide +kernel
theorem dX6_goesOn_8 : decode cX6_goesOn 8 = .ok (.invokevirtual 86, 3) := by decide +kernel
theorem dX6_goesOn_11 : decode cX6_goesOn 11 = .ok (.return_, 1) := by decide +kernel
theorem dX6_isWord_0 : decode cX6_isWord 0 = .ok (.aload_n 0, 1) := by decide +kernel
theorem dX6_isWord_1 : decode cX6_isWord 1 = .ok (.getfield 76, 3) := by decide +kernel
theorem dX6_isWord_4 : decode cX6_isWord 4 = .ok (.ifCond .ne 27, 3) := by decide +kernel
theorem dX6_isWord_7 : decode cX6_isWord 7 = .ok (.aload_n 0, 1) := by decide +kernel
theorem dX6_isWord_8 : decode cX6_isWord 8 = .ok (.getfield 63, 3) := by decide +kernel
theorem dX6_isWord_11 : decode cX6_isWord 11 = .ok (.iconst 1, 1) := by decide +kernel
theorem dX6_isWord_12 : decode cX6_isWord 12 = .ok (.if_icmp .ne 19, 3) := by decide +kernel
theorem dX6_isWord_15 : decode cX6_isWord 15 = .ok (.aload_n 0, 1) := by decide +kernel
theorem dX6_isWord_16 : decode cX6_isWord 16 = .ok (.getfield 53, 3) := by decide +kernel
theorem dX6_isWord_19 : decode cX6_isWord 19 = .ok (.aload_n 0, 1) := by decide +kernel
theorem dX6_isWord_20 : decode cX6_isWord 20 = .ok (.getfield 60, 3) := by decide +kernel
theorem dX6_isWord_23 : decode cX6_isWord 23 = .ok (.isub, 1) := by decide +kernel
theorem dX6_isWord_24 : decode cX6_isWord 24 = .ok (.aload_n 1, 1) := by decide +kernel
theorem dX6_isWord_25 : decode cX6_isWord 25 = .ok (.invokevirtual 89, 3) := by decide +kernel
theorem dX6_isWord_28 : decode cX6_isWord 28 = .ok (.if_icmp .eq 5, 3) := by decide +kernel
theorem dX6_isWord_31 : decode cX6_isWord 31 = .ok (.iconst 0, 1) := by decide +kernel
theorem dX6_isWord_32 : decode cX6_isWord 32 = .ok (.ireturn, 1) := by decide +kernel
theorem dX6_isWord_33 : decode cX6_isWord 33 = .ok (.iconst 0, 1) := by decide +kernel
theorem dX6_isWord_34 : decode cX6_isWord 34 = .ok (.istore_n 2, 1) := by decide +kernel
theorem dX6_isWord_35 : decode cX6_isWord 35 = .ok (.iload_n 2, 1) := by decide +kernel
theorem dX6_isWord_36 : decode cX6_isWord 36 = .ok (.aload_n 1, 1) := by decide +kernel
theorem dX6_isWord_37 : decode cX6_isWord 37 = .ok (.invokevirtual 89, 3) := by decide +kernel
theorem dX6_isWord_40 : decode cX6_isWord 40 = .ok (.if_icmp .ge 29, 3) := by decide +kernel
theorem dX6_isWord_43 : decode cX6_isWord 43 = .ok (.aload_n 0, 1) := by decide +kernel
theorem dX6_isWord_44 : decode cX6_isWord 44 = .ok (.aload_n 0, 1) := by decide +kernel
theorem dX6_isWord_45 : decode cX6_isWord 45 = .ok (.getfield 60, 3) := by decide +kernel
theorem dX6_isWord_48 : decode cX6_isWord 48 = .ok (.iload_n 2, 1) := by decide +kernel
theorem dX6_isWord_49 : decode cX6_isWord 49 = .ok (.iadd, 1) := by decide +kernel
theorem dX6_isWord_50 : decode cX6_isWord 50 = .ok (.invokevirtual 56, 3) := by decide +kernel
theorem dX6_isWord_53 : decode cX6_isWord 53 = .ok (.aload_n 1, 1) := by decide +kernel
theorem dX6_isWord_54 : decode cX6_isWord 54 = .ok (.iload_n 2, 1) := by decide +kernel
theorem dX6_isWord_55 : decode cX6_isWord 55 = .ok (.invokevirtual 94, 3) := by decide +kernel
theorem dX6_isWord_58 : decode cX6_isWord 58 = .ok (.if_icmp .eq 5, 3) := by decide +kernel
theorem dX6_isWord_61 : decode cX6_isWord 61 = .ok (.iconst 0, 1) := by decide +kernel
theorem dX6_isWord_62 : decode cX6_isWord 62 = .ok (.ireturn, 1) := by decide +kernel
theorem dX6_isWord_63 : decode cX6_isWord 63 = .ok (.iinc 2 1, 3) := by decide +kernel
theorem dX6_isWord_66 : decode cX6_isWord 66 = .ok (.goto (-31), 3) := by decide +kernel
theorem dX6_isWord_69 : decode cX6_isWord 69 = .ok (.iconst 1, 1) := by decide +kernel
theorem dX6_isWord_70 : decode cX6_isWord 70 = .ok (.ireturn, 1) := by decide +kernel
theorem dX6_numberHere_0 : decode cX6_numberHere 0 = .ok (.aload_n 0, 1) := by decide +kernel
theorem dX6_numberHere_1 : decode cX6_numberHere 1 = .ok (.getfield 63, 3) := by decide +kernel
theorem dX6_numberHere_4 : decode cX6_numberHere 4 = .ok (.iconst 2, 1) := by decide +kernel
theorem dX6_numberHere_5 : decode cX6_numberHere 5 = .ok (.if_icmp .eq 11, 3) := by decide +kernel
theorem dX6_numberHere_8 : decode cX6_numberHere 8 = .ok (.aload_n 0, 1) := by decide +kernel
theorem dX6_numberHere_9 : decode cX6_numberHere 9 = .ok (.iconst 1, 1) := by decide +kernel
theorem dX6_numberHere_10 : decode cX6_numberHere 10 = .ok (.invokevirtual 82, 3) := by decide +kernel
theorem dX6_numberHere_13 : decode cX6_numberHere 13 = .ok (.goto 20, 3) := by decide +kernel
theorem dX6_numberHere_16 : decode cX6_numberHere 16 = .ok (.aload_n 0, 1) := by decide +kernel
theorem dX6_numberHere_17 : decode cX6_numberHere 17 = .ok (.getfield 73, 3) := by decide +kernel
theorem dX6_numberHere_20 : decode cX6_numberHere 20 = .ok (.iload_n 1, 1) := by decide +kernel
theorem dX6_numberHere_21 : decode cX6_numberHere 21 = .ok (.iload_n 2, 1) := by decide +kernel
theorem dX6_numberHere_22 : decode cX6_numberHere 22 = .ok (.invokestatic 98, 3) := by decide +kernel
theorem dX6_numberHere_25 : decode cX6_numberHere 25 = .ok (.ifCond .ne 8, 3) := by decide +kernel
theorem dX6_numberHere_28 : decode cX6_numberHere 28 = .ok (.aload_n 0, 1) := by decide +kernel
theorem dX6_numberHere_29 : decode cX6_numberHere 29 = .ok (.iconst 2, 1) := by decide +kernel
theorem dX6_numberHere_30 : decode cX6_numberHere 30 = .ok (.invokevirtual 82, 3) := by decide +kernel
theorem dX6_numberHere_33 : decode cX6_numberHere 33 = .ok (.aload_n 0, 1) := by decide +kernel
theorem dX6_numberHere_34 : decode cX6_numberHere 34 = .ok (.getfield 76, 3) := by decide +kernel
theorem dX6_numberHere_37 : decode cX6_numberHere 37 = .ok (.ifCond .eq 7, 3) := by decide +kernel
theorem dX6_numberHere_40 : decode cX6_numberHere 40 = .ok (.iload_n 1, 1) := by decide +kernel
theorem dX6_numberHere_41 : decode cX6_numberHere 41 = .ok (.goto 7, 3) := by decide +kernel
theorem dX6_numberHere_44 : decode cX6_numberHere 44 = .ok (.aload_n 0, 1) := by decide +kernel
theorem dX6_numberHere_45 : decode cX6_numberHere 45 = .ok (.getfield 73, 3) := by decide +kernel
theorem dX6_numberHere_48 : decode cX6_numberHere 48 = .ok (.ireturn, 1) := by decide +kernel
theorem dX6_takes_0 : decode cX6_takes 0 = .ok (.aload_n 0, 1) := by decide +kernel
theorem dX6_takes_1 : decode cX6_takes 1 = .ok (.iload_n 1, 1) := by decide +kernel
theorem dX6_takes_2 : decode cX6_takes 2 = .ok (.iload_n 2, 1) := by decide +kernel
theorem dX6_takes_3 : decode cX6_takes 3 = .ok (.invokevirtual 102, 3) := by decide +kernel
theorem dX6_takes_6 : decode cX6_takes 6 = .ok (.istore_n 3, 1) := by decide +kernel
theorem dX6_takes_7 : decode cX6_takes 7 = .ok (.aload_n 0, 1) := by decide +kernel
theorem dX6_takes_8 : decode cX6_takes 8 = .ok (.invokevirtual 106, 3) := by decide +kernel
theorem dX6_takes_11 : decode cX6_takes 11 = .ok (.iload_n 3, 1) := by decide +kernel
theorem dX6_takes_12 : decode cX6_takes 12 = .ok (.ireturn, 1) := by decide +kernel
theorem dX6_takesAfter_0 : decode cX6_takesAfter 0 = .ok (.aload_n 0, 1) := by decide +kernel
theorem dX6_takesAfter_1 : decode cX6_takesAfter 1 = .ok (.aload_n 0, 1) := by decide +kernel
theorem dX6_takesAfter_2 : decode cX6_takesAfter 2 = .ok (.aload_n 1, 1) := by decide +kernel
theorem dX6_takesAfter_3 : decode cX6_takesAfter 3 = .ok (.invokevirtual 109, 3) := by decide +kernel
theorem dX6_takesAfter_6 : decode cX6_takesAfter 6 = .ok (.ifCond .ne 7, 3) := by decide +kernel
theorem dX6_takesAfter_9 : decode cX6_takesAfter 9 = .ok (.iconst 1, 1) := by decide +kernel
theorem dX6_takesAfter_10 : decode cX6_takesAfter 10 = .ok (.goto 4, 3) := by decide +kernel
theorem dX6_takesAfter_13 : decode cX6_takesAfter 13 = .ok (.iconst 0, 1) := by decide +kernel
theorem dX6_takesAfter_14 : decode cX6_takesAfter 14 = .ok (.iconst 1, 1) := by decide +kernel
theorem dX6_takesAfter_15 : decode cX6_takesAfter 15 = .ok (.invokevirtual 113, 3) := by decide +kernel
theorem dX6_takesAfter_18 : decode cX6_takesAfter 18 = .ok (.aload_n 0, 1) := by decide +kernel
theorem dX6_takesAfter_19 : decode cX6_takesAfter 19 = .ok (.invokevirtual 106, 3) := by decide +kernel
theorem dX6_takesAfter_22 : decode cX6_takesAfter 22 = .ok (.aload_n 0, 1) := by decide +kernel
theorem dX6_takesAfter_23 : decode cX6_takesAfter 23 = .ok (.iload_n 2, 1) := by decide +kernel
theorem dX6_takesAfter_24 : decode cX6_takesAfter 24 = .ok (.iload_n 3, 1) := by decide +kernel
theorem dX6_takesAfter_25 : decode cX6_takesAfter 25 = .ok (.invokevirtual 117, 3) := by decide +kernel
theorem dX6_takesAfter_28 : decode cX6_takesAfter 28 = .ok (.ireturn, 1) := by decide +kernel
theorem dX6_putLine_0 : decode cX6_putLine 0 = .ok (.aload_n 0, 1) := by decide +kernel
theorem dX6_putLine_1 : decode cX6_putLine 1 = .ok (.aload_n 0, 1) := by decide +kernel
theorem dX6_putLine_2 : decode cX6_putLine 2 = .ok (.getfield 120, 3) := by decide +kernel
theorem dX6_putLine_5 : decode cX6_putLine 5 = .ok (.ifCond .le 7, 3) := by decide +kernel
theorem dX6_putLine_8 : decode cX6_putLine 8 = .ok (.iconst 1, 1) := by decide +kernel
theorem dX6_putLine_9 : decode cX6_putLine 9 = .ok (.goto 4, 3) := by decide +kernel
theorem dX6_putLine_12 : decode cX6_putLine 12 = .ok (.iconst 0, 1) := by decide +kernel
theorem dX6_putLine_13 : decode cX6_putLine 13 = .ok (.iconst 1, 1) := by decide +kernel
theorem dX6_putLine_14 : decode cX6_putLine 14 = .ok (.invokevirtual 113, 3) := by decide +kernel
theorem dX6_putLine_17 : decode cX6_putLine 17 = .ok (.aload_n 0, 1) := by decide +kernel
theorem dX6_putLine_18 : decode cX6_putLine 18 = .ok (.aload_n 0, 1) := by decide +kernel
theorem dX6_putLine_19 : decode cX6_putLine 19 = .ok (.getfield 123, 3) := by decide +kernel
theorem dX6_putLine_22 : decode cX6_putLine 22 = .ok (.bipush 20, 2) := by decide +kernel
theorem dX6_putLine_24 : decode cX6_putLine 24 = .ok (.if_icmp .ne 7, 3) := by decide +kernel
theorem dX6_putLine_27 : decode cX6_putLine 27 = .ok (.iconst 1, 1) := by decide +kernel
theorem dX6_putLine_28 : decode cX6_putLine 28 = .ok (.goto 4, 3) := by decide +kernel
theorem dX6_putLine_31 : decode cX6_putLine 31 = .ok (.iconst 0, 1) := by decide +kernel
theorem dX6_putLine_32 : decode cX6_putLine 32 = .ok (.iconst 4, 1) := by decide +kernel
theorem dX6_putLine_33 : decode cX6_putLine 33 = .ok (.invokevirtual 113, 3) := by decide +kernel
theorem dX6_putLine_36 : decode cX6_putLine 36 = .ok (.aload_n 0, 1) := by decide +kernel
theorem dX6_putLine_37 : decode cX6_putLine 37 = .ok (.invokevirtual 106, 3) := by decide +kernel
theorem dX6_putLine_40 : decode cX6_putLine 40 = .ok (.aload_n 0, 1) := by decide +kernel
theorem dX6_putLine_41 : decode cX6_putLine 41 = .ok (.iconst 0, 1) := by decide +kernel
theorem dX6_putLine_42 : decode cX6_putLine 42 = .ok (.aload_n 0, 1) := by decide +kernel
theorem dX6_putLine_43 : decode cX6_putLine 43 = .ok (.getfield 126, 3) := by decide +kernel
theorem dX6_putLine_46 : decode cX6_putLine 46 = .ok (.iconst 1, 1) := by decide +kernel
theorem dX6_putLine_47 : decode cX6_putLine 47 = .ok (.isub, 1) := by decide +kernel
theorem dX6_putLine_48 : decode cX6_putLine 48 = .ok (.invokevirtual 117, 3) := by decide +kernel
theorem dX6_putLine_51 : decode cX6_putLine 51 = .ok (.istore_n 1, 1) := by decide +kernel
theorem dX6_putLine_52 : decode cX6_putLine 52 = .ok (.iconst 0, 1) := by decide +kernel
theorem dX6_putLine_53 : decode cX6_putLine 53 = .ok (.istore_n 2, 1) := by decide +kernel
theorem dX6_putLine_54 : decode cX6_putLine 54 = .ok (.aload_n 0, 1) := by decide +kernel
theorem dX6_putLine_55 : decode cX6_putLine 55 = .ok (.getfield 76, 3) := by decide +kernel
theorem dX6_putLine_58 : decode cX6_putLine 58 = .ok (.ifCond .ne 79, 3) := by decide +kernel
theorem dX6_putLine_61 : decode cX6_putLine 61 = .ok (.iload_n 2, 1) := by decide +kernel
theorem dX6_putLine_62 : decode cX6_putLine 62 = .ok (.ifCond .eq 11, 3) := by decide +kernel
theorem dX6_putLine_65 : decode cX6_putLine 65 = .ok (.aload_n 0, 1) := by decide +kernel
theorem dX6_putLine_66 : decode cX6_putLine 66 = .ok (.getfield 63, 3) := by decide +kernel
theorem dX6_putLine_69 : decode cX6_putLine 69 = .ok (.iconst 2, 1) := by decide +kernel
theorem dX6_putLine_70 : decode cX6_putLine 70 = .ok (.if_icmp .ne 67, 3) := by decide +kernel
theorem dX6_putLine_73 : decode cX6_putLine 73 = .ok (.aload_n 0, 1) := by decide +kernel
theorem dX6_putLine_74 : decode cX6_putLine 74 = .ok (.iconst 0, 1) := by decide +kernel
theorem dX6_putLine_75 : decode cX6_putLine 75 = .ok (.sipush 255, 3) := by decide +kernel
theorem dX6_putLine_78 : decode cX6_putLine 78 = .ok (.invokevirtual 102, 3) := by decide +kernel
theorem dX6_putLine_81 : decode cX6_putLine 81 = .ok (.istore_n 3, 1) := by decide +kernel
theorem dX6_putLine_82 : decode cX6_putLine 82 = .ok (.aload_n 0, 1) := by decide +kernel
theorem dX6_putLine_83 : decode cX6_putLine 83 = .ok (.aload_n 0, 1) := by decide +kernel
theorem dX6_putLine_84 : decode cX6_putLine 84 = .ok (.getfield 76, 3) := by decide +kernel
theorem dX6_putLine_87 : decode cX6_putLine 87 = .ok (.ifCond .ne 17, 3) := by decide +kernel
theorem dX6_putLine_90 : decode cX6_putLine 90 = .ok (.iload_n 1, 1) := by decide +kernel
theorem dX6_putLine_91 : decode cX6_putLine 91 = .ok (.iload_n 2, 1) := by decide +kernel
theorem dX6_putLine_92 : decode cX6_putLine 92 = .ok (.iadd, 1) := by decide +kernel
theorem dX6_putLine_93 : decode cX6_putLine 93 = .ok (.aload_n 0, 1) := by decide +kernel
theorem dX6_putLine_94 : decode cX6_putLine 94 = .ok (.getfield 126, 3) := by decide +kernel
theorem dX6_putLine_97 : decode cX6_putLine 97 = .ok (.if_icmp .lt 7, 3) := by decide +kernel
theorem dX6_putLine_100 : decode cX6_putLine 100 = .ok (.iconst 1, 1) := by decide +kernel
theorem dX6_putLine_101 : decode cX6_putLine 101 = .ok (.goto 4, 3) := by decide +kernel
theorem dX6_putLine_104 : decode cX6_putLine 104 = .ok (.iconst 0, 1) := by decide +kernel
theorem dX6_putLine_105 : decode cX6_putLine 105 = .ok (.iconst 2, 1) := by decide +kernel
theorem dX6_putLine_106 : decode cX6_putLine 106 = .ok (.invokevirtual 113, 3) := by decide +kernel
theorem dX6_putLine_109 : decode cX6_putLine 109 = .ok (.aload_n 0, 1) := by decide +kernel
theorem dX6_putLine_110 : decode cX6_putLine 110 = .ok (.getfield 76, 3) := by decide +kernel
theorem dX6_putLine_113 : decode cX6_putLine 113 = .ok (.ifCond .ne 14, 3) := by decide +kernel
theorem dX6_putLine_116 : decode cX6_putLine 116 = .ok (.aload_n 0, 1) := by decide +kernel
theorem dX6_putLine_117 : decode cX6_putLine 117 = .ok (.getfield 7, 3) := by decide +kernel
theorem dX6_putLine_120 : decode cX6_putLine 120 = .ok (.iconst 0, 1) := by decide +kernel
theorem dX6_putLine_121 : decode cX6_putLine 121 = .ok (.iload_n 1, 1) := by decide +kernel
theorem dX6_putLine_122 : decode cX6_putLine 122 = .ok (.iadd, 1) := by decide +kernel
theorem dX6_putLine_123 : decode cX6_putLine 123 = .ok (.iload_n 2, 1) := by decide +kernel
theorem dX6_putLine_124 : decode cX6_putLine 124 = .ok (.iadd, 1) := by decide +kernel
theorem dX6_putLine_125 : decode cX6_putLine 125 = .ok (.iload_n 3, 1) := by decide +kernel
theorem dX6_putLine_126 : decode cX6_putLine 126 = .ok (.iastore, 1) := by decide +kernel
theorem dX6_putLine_127 : decode cX6_putLine 127 = .ok (.aload_n 0, 1) := by decide +kernel
theorem dX6_putLine_128 : decode cX6_putLine 128 = .ok (.invokevirtual 106, 3) := by decide +kernel
theorem dX6_putLine_131 : decode cX6_putLine 131 = .ok (.iinc 2 1, 3) := by decide +kernel
theorem dX6_putLine_134 : decode cX6_putLine 134 = .ok (.goto (-80), 3) := by decide +kernel
theorem dX6_putLine_137 : decode cX6_putLine 137 = .ok (.aload_n 0, 1) := by decide +kernel
theorem dX6_putLine_138 : decode cX6_putLine 138 = .ok (.dup, 1) := by decide +kernel
theorem dX6_putLine_139 : decode cX6_putLine 139 = .ok (.getfield 123, 3) := by decide +kernel
theorem dX6_putLine_142 : decode cX6_putLine 142 = .ok (.iconst 1, 1) := by decide +kernel
theorem dX6_putLine_143 : decode cX6_putLine 143 = .ok (.iadd, 1) := by decide +kernel
theorem dX6_putLine_144 : decode cX6_putLine 144 = .ok (.putfield 123, 3) := by decide +kernel
theorem dX6_putLine_147 : decode cX6_putLine 147 = .ok (.return_, 1) := by decide +kernel
theorem dX6_lockLine_0 : decode cX6_lockLine 0 = .ok (.aload_n 0, 1) := by decide +kernel
theorem dX6_lockLine_1 : decode cX6_lockLine 1 = .ok (.aload_n 0, 1) := by decide +kernel
theorem dX6_lockLine_2 : decode cX6_lockLine 2 = .ok (.getfield 129, 3) := by decide +kernel
theorem dX6_lockLine_5 : decode cX6_lockLine 5 = .ok (.bipush 6, 2) := by decide +kernel
theorem dX6_lockLine_7 : decode cX6_lockLine 7 = .ok (.if_icmp .ne 7, 3) := by decide +kernel
theorem dX6_lockLine_10 : decode cX6_lockLine 10 = .ok (.iconst 1, 1) := by decide +kernel
theorem dX6_lockLine_11 : decode cX6_lockLine 11 = .ok (.goto 4, 3) := by decide +kernel
theorem dX6_lockLine_14 : decode cX6_lockLine 14 = .ok (.iconst 0, 1) := by decide +kernel
theorem dX6_lockLine_15 : decode cX6_lockLine 15 = .ok (.iconst 4, 1) := by decide +kernel
theorem dX6_lockLine_16 : decode cX6_lockLine 16 = .ok (.invokevirtual 113, 3) := by decide +kernel
theorem dX6_lockLine_19 : decode cX6_lockLine 19 = .ok (.aload_n 0, 1) := by decide +kernel
theorem dX6_lockLine_20 : decode cX6_lockLine 20 = .ok (.invokevirtual 106, 3) := by decide +kernel
theorem dX6_lockLine_23 : decode cX6_lockLine 23 = .ok (.aload_n 0, 1) := by decide +kernel
theorem dX6_lockLine_24 : decode cX6_lockLine 24 = .ok (.iconst 0, 1) := by decide +kernel
theorem dX6_lockLine_25 : decode cX6_lockLine 25 = .ok (.aload_n 0, 1) := by decide +kernel
theorem dX6_lockLine_26 : decode cX6_lockLine 26 = .ok (.getfield 126, 3) := by decide +kernel
theorem dX6_lockLine_29 : decode cX6_lockLine 29 = .ok (.iconst 1, 1) := by decide +kernel
theorem dX6_lockLine_30 : decode cX6_lockLine 30 = .ok (.isub, 1) := by decide +kernel
theorem dX6_lockLine_31 : decode cX6_lockLine 31 = .ok (.invokevirtual 117, 3) := by decide +kernel
theorem dX6_lockLine_34 : decode cX6_lockLine 34 = .ok (.istore_n 1, 1) := by decide +kernel
theorem dX6_lockLine_35 : decode cX6_lockLine 35 = .ok (.aload_n 0, 1) := by decide +kernel
theorem dX6_lockLine_36 : decode cX6_lockLine 36 = .ok (.iload_n 1, 1) := by decide +kernel
theorem dX6_lockLine_37 : decode cX6_lockLine 37 = .ok (.aload_n 0, 1) := by decide +kernel
theorem dX6_lockLine_38 : decode cX6_lockLine 38 = .ok (.getfield 126, 3) := by decide +kernel
theorem dX6_lockLine_41 : decode cX6_lockLine 41 = .ok (.iconst 1, 1) := by decide +kernel
theorem dX6_lockLine_42 : decode cX6_lockLine 42 = .ok (.isub, 1) := by decide +kernel
theorem dX6_lockLine_43 : decode cX6_lockLine 43 = .ok (.invokevirtual 117, 3) := by decide +kernel
theorem dX6_lockLine_46 : decode cX6_lockLine 46 = .ok (.istore_n 2, 1) := by decide +kernel
theorem dX6_lockLine_47 : decode cX6_lockLine 47 = .ok (.iload_n 1, 1) := by decide +kernel
theorem dX6_lockLine_48 : decode cX6_lockLine 48 = .ok (.istore_n 3, 1) := by decide +kernel
theorem dX6_lockLine_49 : decode cX6_lockLine 49 = .ok (.iload_n 3, 1) := by decide +kernel
theorem dX6_lockLine_50 : decode cX6_lockLine 50 = .ok (.iload_n 2, 1) := by decide +kernel
theorem dX6_lockLine_51 : decode cX6_lockLine 51 = .ok (.if_icmp .gt 23, 3) := by decide +kernel
theorem dX6_lockLine_54 : decode cX6_lockLine 54 = .ok (.aload_n 0, 1) := by decide +kernel
theorem dX6_lockLine_55 : decode cX6_lockLine 55 = .ok (.getfield 76, 3) := by decide +kernel
theorem dX6_lockLine_58 : decode cX6_lockLine 58 = .ok (.ifCond .ne 16, 3) := by decide +kernel
theorem dX6_lockLine_61 : decode cX6_lockLine 61 = .ok (.aload_n 0, 1) := by decide +kernel
theorem dX6_lockLine_62 : decode cX6_lockLine 62 = .ok (.iload_n 3, 1) := by decide +kernel
theorem dX6_lockLine_63 : decode cX6_lockLine 63 = .ok (.invokevirtual 132, 3) := by decide +kernel
theorem dX6_lockLine_66 : decode cX6_lockLine 66 = .ok (.istore 4, 2) := by decide +kernel
theorem dX6_lockLine_68 : decode cX6_lockLine 68 = .ok (.iinc 3 1, 3) := by decide +kernel
theorem dX6_lockLine_71 : decode cX6_lockLine 71 = .ok (.goto (-22), 3) := by decide +kernel
theorem dX6_lockLine_74 : decode cX6_lockLine 74 = .ok (.aload_n 0, 1) := by decide +kernel
theorem dX6_lockLine_75 : decode cX6_lockLine 75 = .ok (.dup, 1) := by decide +kernel
theorem dX6_lockLine_76 : decode cX6_lockLine 76 = .ok (.getfield 129, 3) := by decide +kernel
theorem dX6_lockLine_79 : decode cX6_lockLine 79 = .ok (.iconst 1, 1) := by decide +kernel
theorem dX6_lockLine_80 : decode cX6_lockLine 80 = .ok (.iadd, 1) := by decide +kernel
theorem dX6_lockLine_81 : decode cX6_lockLine 81 = .ok (.putfield 129, 3) := by decide +kernel
theorem dX6_lockLine_84 : decode cX6_lockLine 84 = .ok (.return_, 1) := by decide +kernel
theorem dX6_copyLine_0 : decode cX6_copyLine 0 = .ok (.aload_n 0, 1) := by decide +kernel
theorem dX6_copyLine_1 : decode cX6_copyLine 1 = .ok (.aload_n 0, 1) := by decide +kernel
theorem dX6_copyLine_2 : decode cX6_copyLine 2 = .ok (.getfield 120, 3) := by decide +kernel
theorem dX6_copyLine_5 : decode cX6_copyLine 5 = .ok (.bipush 20, 2) := by decide +kernel
theorem dX6_copyLine_7 : decode cX6_copyLine 7 = .ok (.if_icmp .ne 7, 3) := by decide +kernel
theorem dX6_copyLine_10 : decode cX6_copyLine 10 = .ok (.iconst 1, 1) := by decide +kernel
theorem dX6_copyLine_11 : decode cX6_copyLine 11 = .ok (.goto 4, 3) := by decide +kernel
theorem dX6_copyLine_14 : decode cX6_copyLine 14 = .ok (.iconst 0, 1) := by decide +kernel
theorem dX6_copyLine_15 : decode cX6_copyLine 15 = .ok (.iconst 4, 1) := by decide +kernel
theorem dX6_copyLine_16 : decode cX6_copyLine 16 = .ok (.invokevirtual 113, 3) := by decide +kernel
theorem dX6_copyLine_19 : decode cX6_copyLine 19 = .ok (.aload_n 0, 1) := by decide +kernel
theorem dX6_copyLine_20 : decode cX6_copyLine 20 = .ok (.invokevirtual 106, 3) := by decide +kernel
theorem dX6_copyLine_23 : decode cX6_copyLine 23 = .ok (.aload_n 0, 1) := by decide +kernel
theorem dX6_copyLine_24 : decode cX6_copyLine 24 = .ok (.iconst 0, 1) := by decide +kernel
theorem dX6_copyLine_25 : decode cX6_copyLine 25 = .ok (.aload_n 0, 1) := by decide +kernel
theorem dX6_copyLine_26 : decode cX6_copyLine 26 = .ok (.getfield 126, 3) := by decide +kernel
theorem dX6_copyLine_29 : decode cX6_copyLine 29 = .ok (.iconst 1, 1) := by decide +kernel
theorem dX6_copyLine_30 : decode cX6_copyLine 30 = .ok (.isub, 1) := by decide +kernel
theorem dX6_copyLine_31 : decode cX6_copyLine 31 = .ok (.invokevirtual 117, 3) := by decide +kernel
theorem dX6_copyLine_34 : decode cX6_copyLine 34 = .ok (.istore_n 1, 1) := by decide +kernel
theorem dX6_copyLine_35 : decode cX6_copyLine 35 = .ok (.aload_n 0, 1) := by decide +kernel
theorem dX6_copyLine_36 : decode cX6_copyLine 36 = .ok (.iconst 0, 1) := by decide +kernel
theorem dX6_copyLine_37 : decode cX6_copyLine 37 = .ok (.aload_n 0, 1) := by decide +kernel
theorem dX6_copyLine_38 : decode cX6_copyLine 38 = .ok (.getfield 126, 3) := by decide +kernel
theorem dX6_copyLine_41 : decode cX6_copyLine 41 = .ok (.iconst 1, 1) := by decide +kernel
theorem dX6_copyLine_42 : decode cX6_copyLine 42 = .ok (.isub, 1) := by decide +kernel
theorem dX6_copyLine_43 : decode cX6_copyLine 43 = .ok (.invokevirtual 117, 3) := by decide +kernel
theorem dX6_copyLine_46 : decode cX6_copyLine 46 = .ok (.istore_n 2, 1) := by decide +kernel
theorem dX6_copyLine_47 : decode cX6_copyLine 47 = .ok (.aload_n 0, 1) := by decide +kernel
theorem dX6_copyLine_48 : decode cX6_copyLine 48 = .ok (.iconst 1, 1) := by decide +kernel
theorem dX6_copyLine_49 : decode cX6_copyLine 49 = .ok (.aload_n 0, 1) := by decide +kernel
theorem dX6_copyLine_50 : decode cX6_copyLine 50 = .ok (.getfield 126, 3) := by decide +kernel
theorem dX6_copyLine_53 : decode cX6_copyLine 53 = .ok (.invokevirtual 102, 3) := by decide +kernel
theorem dX6_copyLine_56 : decode cX6_copyLine 56 = .ok (.istore_n 3, 1) := by decide +kernel
theorem dX6_copyLine_57 : decode cX6_copyLine 57 = .ok (.aload_n 0, 1) := by decide +kernel
theorem dX6_copyLine_58 : decode cX6_copyLine 58 = .ok (.aload_n 0, 1) := by decide +kernel
theorem dX6_copyLine_59 : decode cX6_copyLine 59 = .ok (.getfield 76, 3) := by decide +kernel
theorem dX6_copyLine_62 : decode cX6_copyLine 62 = .ok (.ifCond .ne 17, 3) := by decide +kernel
theorem dX6_copyLine_65 : decode cX6_copyLine 65 = .ok (.aload_n 0, 1) := by decide +kernel
theorem dX6_copyLine_66 : decode cX6_copyLine 66 = .ok (.iload_n 1, 1) := by decide +kernel
theorem dX6_copyLine_67 : decode cX6_copyLine 67 = .ok (.iload_n 2, 1) := by decide +kernel
theorem dX6_copyLine_68 : decode cX6_copyLine 68 = .ok (.iload_n 3, 1) := by decide +kernel
theorem dX6_copyLine_69 : decode cX6_copyLine 69 = .ok (.invokevirtual 135, 3) := by decide +kernel
theorem dX6_copyLine_72 : decode cX6_copyLine 72 = .ok (.ifCond .eq 7, 3) := by decide +kernel
theorem dX6_copyLine_75 : decode cX6_copyLine 75 = .ok (.iconst 1, 1) := by decide +kernel
theorem dX6_copyLine_76 : decode cX6_copyLine 76 = .ok (.goto 4, 3) := by decide +kernel
theorem dX6_copyLine_79 : decode cX6_copyLine 79 = .ok (.iconst 0, 1) := by decide +kernel
theorem dX6_copyLine_80 : decode cX6_copyLine 80 = .ok (.iconst 3, 1) := by decide +kernel
theorem dX6_copyLine_81 : decode cX6_copyLine 81 = .ok (.invokevirtual 113, 3) := by decide +kernel
theorem dX6_copyLine_84 : decode cX6_copyLine 84 = .ok (.aload_n 0, 1) := by decide +kernel
theorem dX6_copyLine_85 : decode cX6_copyLine 85 = .ok (.getfield 76, 3) := by decide +kernel
theorem dX6_copyLine_88 : decode cX6_copyLine 88 = .ok (.ifCond .ne 10, 3) := by decide +kernel
theorem dX6_copyLine_91 : decode cX6_copyLine 91 = .ok (.aload_n 0, 1) := by decide +kernel
theorem dX6_copyLine_92 : decode cX6_copyLine 92 = .ok (.iload_n 1, 1) := by decide +kernel
theorem dX6_copyLine_93 : decode cX6_copyLine 93 = .ok (.iload_n 2, 1) := by decide +kernel
theorem dX6_copyLine_94 : decode cX6_copyLine 94 = .ok (.iload_n 3, 1) := by decide +kernel
theorem dX6_copyLine_95 : decode cX6_copyLine 95 = .ok (.invokevirtual 139, 3) := by decide +kernel
theorem dX6_copyLine_98 : decode cX6_copyLine 98 = .ok (.aload_n 0, 1) := by decide +kernel
theorem dX6_copyLine_99 : decode cX6_copyLine 99 = .ok (.invokevirtual 106, 3) := by decide +kernel
theorem dX6_copyLine_102 : decode cX6_copyLine 102 = .ok (.aload_n 0, 1) := by decide +kernel
theorem dX6_copyLine_103 : decode cX6_copyLine 103 = .ok (.dup, 1) := by decide +kernel
theorem dX6_copyLine_104 : decode cX6_copyLine 104 = .ok (.getfield 120, 3) := by decide +kernel
theorem dX6_copyLine_107 : decode cX6_copyLine 107 = .ok (.iconst 1, 1) := by decide +kernel
theorem dX6_copyLine_108 : decode cX6_copyLine 108 = .ok (.iadd, 1) := by decide +kernel
theorem dX6_copyLine_109 : decode cX6_copyLine 109 = .ok (.putfield 120, 3) := by decide +kernel
theorem dX6_copyLine_112 : decode cX6_copyLine 112 = .ok (.return_, 1) := by decide +kernel
theorem dX6_fillLine_0 : decode cX6_fillLine 0 = .ok (.aload_n 0, 1) := by decide +kernel
theorem dX6_fillLine_1 : decode cX6_fillLine 1 = .ok (.aload_n 0, 1) := by decide +kernel
theorem dX6_fillLine_2 : decode cX6_fillLine 2 = .ok (.getfield 143, 3) := by decide +kernel
theorem dX6_fillLine_5 : decode cX6_fillLine 5 = .ok (.bipush 6, 2) := by decide +kernel
theorem dX6_fillLine_7 : decode cX6_fillLine 7 = .ok (.if_icmp .ne 7, 3) := by decide +kernel
theorem dX6_fillLine_10 : decode cX6_fillLine 10 = .ok (.iconst 1, 1) := by decide +kernel
theorem dX6_fillLine_11 : decode cX6_fillLine 11 = .ok (.goto 4, 3) := by decide +kernel
theorem dX6_fillLine_14 : decode cX6_fillLine 14 = .ok (.iconst 0, 1) := by decide +kernel
theorem dX6_fillLine_15 : decode cX6_fillLine 15 = .ok (.iconst 4, 1) := by decide +kernel
theorem dX6_fillLine_16 : decode cX6_fillLine 16 = .ok (.invokevirtual 113, 3) := by decide +kernel
theorem dX6_fillLine_19 : decode cX6_fillLine 19 = .ok (.aload_n 0, 1) := by decide +kernel
theorem dX6_fillLine_20 : decode cX6_fillLine 20 = .ok (.invokevirtual 106, 3) := by decide +kernel
theorem dX6_fillLine_23 : decode cX6_fillLine 23 = .ok (.aload_n 0, 1) := by decide +kernel
theorem dX6_fillLine_24 : decode cX6_fillLine 24 = .ok (.iconst 0, 1) := by decide +kernel
theorem dX6_fillLine_25 : decode cX6_fillLine 25 = .ok (.aload_n 0, 1) := by decide +kernel
theorem dX6_fillLine_26 : decode cX6_fillLine 26 = .ok (.getfield 126, 3) := by decide +kernel
theorem dX6_fillLine_29 : decode cX6_fillLine 29 = .ok (.iconst 1, 1) := by decide +kernel
theorem dX6_fillLine_30 : decode cX6_fillLine 30 = .ok (.isub, 1) := by decide +kernel
theorem dX6_fillLine_31 : decode cX6_fillLine 31 = .ok (.invokevirtual 117, 3) := by decide +kernel
theorem dX6_fillLine_34 : decode cX6_fillLine 34 = .ok (.istore_n 1, 1) := by decide +kernel
theorem dX6_fillLine_35 : decode cX6_fillLine 35 = .ok (.aload_n 0, 1) := by decide +kernel
theorem dX6_fillLine_36 : decode cX6_fillLine 36 = .ok (.iload_n 1, 1) := by decide +kernel
theorem dX6_fillLine_37 : decode cX6_fillLine 37 = .ok (.aload_n 0, 1) := by decide +kernel
theorem dX6_fillLine_38 : decode cX6_fillLine 38 = .ok (.getfield 126, 3) := by decide +kernel
theorem dX6_fillLine_41 : decode cX6_fillLine 41 = .ok (.iconst 1, 1) := by decide +kernel
theorem dX6_fillLine_42 : decode cX6_fillLine 42 = .ok (.isub, 1) := by decide +kernel
theorem dX6_fillLine_43 : decode cX6_fillLine 43 = .ok (.invokevirtual 117, 3) := by decide +kernel
theorem dX6_fillLine_46 : decode cX6_fillLine 46 = .ok (.istore_n 2, 1) := by decide +kernel
theorem dX6_fillLine_47 : decode cX6_fillLine 47 = .ok (.aload_n 0, 1) := by decide +kernel
theorem dX6_fillLine_48 : decode cX6_fillLine 48 = .ok (.iconst 0, 1) := by decide +kernel
theorem dX6_fillLine_49 : decode cX6_fillLine 49 = .ok (.sipush 255, 3) := by decide +kernel
theorem dX6_fillLine_52 : decode cX6_fillLine 52 = .ok (.invokevirtual 102, 3) := by decide +kernel
theorem dX6_fillLine_55 : decode cX6_fillLine 55 = .ok (.istore_n 3, 1) := by decide +kernel
theorem dX6_fillLine_56 : decode cX6_fillLine 56 = .ok (.aload_n 0, 1) := by decide +kernel
theorem dX6_fillLine_57 : decode cX6_fillLine 57 = .ok (.aload_n 0, 1) := by decide +kernel
theorem dX6_fillLine_58 : decode cX6_fillLine 58 = .ok (.getfield 76, 3) := by decide +kernel
theorem dX6_fillLine_61 : decode cX6_fillLine 61 = .ok (.ifCond .ne 16, 3) := by decide +kernel
theorem dX6_fillLine_64 : decode cX6_fillLine 64 = .ok (.aload_n 0, 1) := by decide +kernel
theorem dX6_fillLine_65 : decode cX6_fillLine 65 = .ok (.iload_n 1, 1) := by decide +kernel
theorem dX6_fillLine_66 : decode cX6_fillLine 66 = .ok (.iload_n 2, 1) := by decide +kernel
theorem dX6_fillLine_67 : decode cX6_fillLine 67 = .ok (.invokevirtual 146, 3) := by decide +kernel
theorem dX6_fillLine_70 : decode cX6_fillLine 70 = .ok (.ifCond .eq 7, 3) := by decide +kernel
theorem dX6_fillLine_73 : decode cX6_fillLine 73 = .ok (.iconst 1, 1) := by decide +kernel
theorem dX6_fillLine_74 : decode cX6_fillLine 74 = .ok (.goto 4, 3) := by decide +kernel
theorem dX6_fillLine_77 : decode cX6_fillLine 77 = .ok (.iconst 0, 1) := by decide +kernel
theorem dX6_fillLine_78 : decode cX6_fillLine 78 = .ok (.iconst 3, 1) := by decide +kernel
theorem dX6_fillLine_79 : decode cX6_fillLine 79 = .ok (.invokevirtual 113, 3) := by decide +kernel
theorem dX6_fillLine_82 : decode cX6_fillLine 82 = .ok (.aload_n 0, 1) := by decide +kernel
theorem dX6_fillLine_83 : decode cX6_fillLine 83 = .ok (.getfield 76, 3) := by decide +kernel
theorem dX6_fillLine_86 : decode cX6_fillLine 86 = .ok (.ifCond .ne 12, 3) := by decide +kernel
theorem dX6_fillLine_89 : decode cX6_fillLine 89 = .ok (.aload_n 0, 1) := by decide +kernel
theorem dX6_fillLine_90 : decode cX6_fillLine 90 = .ok (.iload_n 1, 1) := by decide +kernel
theorem dX6_fillLine_91 : decode cX6_fillLine 91 = .ok (.iload_n 2, 1) := by decide +kernel
theorem dX6_fillLine_92 : decode cX6_fillLine 92 = .ok (.iload_n 3, 1) := by decide +kernel
theorem dX6_fillLine_93 : decode cX6_fillLine 93 = .ok (.invokevirtual 150, 3) := by decide +kernel
theorem dX6_fillLine_96 : decode cX6_fillLine 96 = .ok (.istore 4, 2) := by decide +kernel
theorem dX6_fillLine_98 : decode cX6_fillLine 98 = .ok (.aload_n 0, 1) := by decide +kernel
theorem dX6_fillLine_99 : decode cX6_fillLine 99 = .ok (.invokevirtual 106, 3) := by decide +kernel
theorem dX6_fillLine_102 : decode cX6_fillLine 102 = .ok (.aload_n 0, 1) := by decide +kernel
theorem dX6_fillLine_103 : decode cX6_fillLine 103 = .ok (.dup, 1) := by decide +kernel
theorem dX6_fillLine_104 : decode cX6_fillLine 104 = .ok (.getfield 143, 3) := by decide +kernel
theorem dX6_fillLine_107 : decode cX6_fillLine 107 = .ok (.iconst 1, 1) := by decide +kernel
theorem dX6_fillLine_108 : decode cX6_fillLine 108 = .ok (.iadd, 1) := by decide +kernel
theorem dX6_fillLine_109 : decode cX6_fillLine 109 = .ok (.putfield 143, 3) := by decide +kernel
theorem dX6_fillLine_112 : decode cX6_fillLine 112 = .ok (.return_, 1) := by decide +kernel
theorem dX6_ruleLine_0 : decode cX6_ruleLine 0 = .ok (.aload_n 0, 1) := by decide +kernel
theorem dX6_ruleLine_1 : decode cX6_ruleLine 1 = .ok (.aload_n 0, 1) := by decide +kernel
theorem dX6_ruleLine_2 : decode cX6_ruleLine 2 = .ok (.getfield 7, 3) := by decide +kernel
theorem dX6_ruleLine_5 : decode cX6_ruleLine 5 = .ok (.sipush 384, 3) := by decide +kernel
theorem dX6_ruleLine_8 : decode cX6_ruleLine 8 = .ok (.iload_n 1, 1) := by decide +kernel
theorem dX6_ruleLine_9 : decode cX6_ruleLine 9 = .ok (.iadd, 1) := by decide +kernel
theorem dX6_ruleLine_10 : decode cX6_ruleLine 10 = .ok (.iaload, 1) := by decide +kernel
theorem dX6_ruleLine_11 : decode cX6_ruleLine 11 = .ok (.iconst 1, 1) := by decide +kernel
theorem dX6_ruleLine_12 : decode cX6_ruleLine 12 = .ok (.if_icmp .ne 7, 3) := by decide +kernel
theorem dX6_ruleLine_15 : decode cX6_ruleLine 15 = .ok (.iconst 1, 1) := by decide +kernel
theorem dX6_ruleLine_16 : decode cX6_ruleLine 16 = .ok (.goto 4, 3) := by decide +kernel
theorem dX6_ruleLine_19 : decode cX6_ruleLine 19 = .ok (.iconst 0, 1) := by decide +kernel
theorem dX6_ruleLine_20 : decode cX6_ruleLine 20 = .ok (.iconst 3, 1) := by decide +kernel
theorem dX6_ruleLine_21 : decode cX6_ruleLine 21 = .ok (.invokevirtual 113, 3) := by decide +kernel
theorem dX6_ruleLine_24 : decode cX6_ruleLine 24 = .ok (.aload_n 0, 1) := by decide +kernel
theorem dX6_ruleLine_25 : decode cX6_ruleLine 25 = .ok (.getfield 7, 3) := by decide +kernel
theorem dX6_ruleLine_28 : decode cX6_ruleLine 28 = .ok (.sipush 384, 3) := by decide +kernel
theorem dX6_ruleLine_31 : decode cX6_ruleLine 31 = .ok (.iload_n 1, 1) := by decide +kernel
theorem dX6_ruleLine_32 : decode cX6_ruleLine 32 = .ok (.iadd, 1) := by decide +kernel
theorem dX6_ruleLine_33 : decode cX6_ruleLine 33 = .ok (.iconst 1, 1) := by decide +kernel
theorem dX6_ruleLine_34 : decode cX6_ruleLine 34 = .ok (.iastore, 1) := by decide +kernel
theorem dX6_ruleLine_35 : decode cX6_ruleLine 35 = .ok (.aload_n 0, 1) := by decide +kernel
theorem dX6_ruleLine_36 : decode cX6_ruleLine 36 = .ok (.invokevirtual 106, 3) := by decide +kernel
theorem dX6_ruleLine_39 : decode cX6_ruleLine 39 = .ok (.return_, 1) := by decide +kernel
theorem dX6_line_0 : decode cX6_line 0 = .ok (.aload_n 0, 1) := by decide +kernel
theorem dX6_line_1 : decode cX6_line 1 = .ok (.ldc 153, 2) := by decide +kernel
theorem dX6_line_3 : decode cX6_line 3 = .ok (.invokevirtual 109, 3) := by decide +kernel
theorem dX6_line_6 : decode cX6_line 6 = .ok (.ifCond .eq 10, 3) := by decide +kernel
theorem dX6_line_9 : decode cX6_line 9 = .ok (.aload_n 0, 1) := by decide +kernel
theorem dX6_line_10 : decode cX6_line 10 = .ok (.invokevirtual 155, 3) := by decide +kernel
theorem dX6_line_13 : decode cX6_line 13 = .ok (.goto 90, 3) := by decide +kernel
theorem dX6_line_16 : decode cX6_line 16 = .ok (.aload_n 0, 1) := by decide +kernel
theorem dX6_line_17 : decode cX6_line 17 = .ok (.ldc 158, 2) := by decide +kernel
theorem dX6_line_19 : decode cX6_line 19 = .ok (.invokevirtual 109, 3) := by decide +kernel
theorem dX6_line_22 : decode cX6_line 22 = .ok (.ifCond .eq 10, 3) := by decide +kernel
theorem dX6_line_25 : decode cX6_line 25 = .ok (.aload_n 0, 1) := by decide +kernel
theorem dX6_line_26 : decode cX6_line 26 = .ok (.invokevirtual 160, 3) := by decide +kernel
theorem dX6_line_29 : decode cX6_line 29 = .ok (.goto 74, 3) := by decide +kernel
theorem dX6_line_32 : decode cX6_line 32 = .ok (.aload_n 0, 1) := by decide +kernel
theorem dX6_line_33 : decode cX6_line 33 = .ok (.ldc 163, 2) := by decide +kernel
theorem dX6_line_35 : decode cX6_line 35 = .ok (.invokevirtual 109, 3) := by decide +kernel
theorem dX6_line_38 : decode cX6_line 38 = .ok (.ifCond .eq 10, 3) := by decide +kernel
theorem dX6_line_41 : decode cX6_line 41 = .ok (.aload_n 0, 1) := by decide +kernel
theorem dX6_line_42 : decode cX6_line 42 = .ok (.invokevirtual 165, 3) := by decide +kernel
theorem dX6_line_45 : decode cX6_line 45 = .ok (.goto 58, 3) := by decide +kernel
theorem dX6_line_48 : decode cX6_line 48 = .ok (.aload_n 0, 1) := by decide +kernel
theorem dX6_line_49 : decode cX6_line 49 = .ok (.ldc 168, 2) := by decide +kernel
theorem dX6_line_51 : decode cX6_line 51 = .ok (.invokevirtual 109, 3) := by decide +kernel
theorem dX6_line_54 : decode cX6_line 54 = .ok (.ifCond .eq 10, 3) := by decide +kernel
theorem dX6_line_57 : decode cX6_line 57 = .ok (.aload_n 0, 1) := by decide +kernel
theorem dX6_line_58 : decode cX6_line 58 = .ok (.invokevirtual 170, 3) := by decide +kernel
theorem dX6_line_61 : decode cX6_line 61 = .ok (.goto 42, 3) := by decide +kernel
theorem dX6_line_64 : decode cX6_line 64 = .ok (.aload_n 0, 1) := by decide +kernel
theorem dX6_line_65 : decode cX6_line 65 = .ok (.ldc 173, 2) := by decide +kernel
theorem dX6_line_67 : decode cX6_line 67 = .ok (.invokevirtual 109, 3) := by decide +kernel
theorem dX6_line_70 : decode cX6_line 70 = .ok (.ifCond .eq 11, 3) := by decide +kernel
theorem dX6_line_73 : decode cX6_line 73 = .ok (.aload_n 0, 1) := by decide +kernel
theorem dX6_line_74 : decode cX6_line 74 = .ok (.iconst 3, 1) := by decide +kernel
theorem dX6_line_75 : decode cX6_line 75 = .ok (.invokevirtual 175, 3) := by decide +kernel
theorem dX6_line_78 : decode cX6_line 78 = .ok (.goto 25, 3) := by decide +kernel
theorem dX6_line_81 : decode cX6_line 81 = .ok (.aload_n 0, 1) := by decide +kernel
theorem dX6_line_82 : decode cX6_line 82 = .ok (.ldc 178, 2) := by decide +kernel
theorem dX6_line_84 : decode cX6_line 84 = .ok (.invokevirtual 109, 3) := by decide +kernel
theorem dX6_line_87 : decode cX6_line 87 = .ok (.ifCond .eq 11, 3) := by decide +kernel
theorem dX6_line_90 : decode cX6_line 90 = .ok (.aload_n 0, 1) := by decide +kernel
theorem dX6_line_91 : decode cX6_line 91 = .ok (.iconst 4, 1) := by decide +kernel
theorem dX6_line_92 : decode cX6_line 92 = .ok (.invokevirtual 175, 3) := by decide +kernel
theorem dX6_line_95 : decode cX6_line 95 = .ok (.goto 8, 3) := by decide +kernel
theorem dX6_line_98 : decode cX6_line 98 = .ok (.aload_n 0, 1) := by decide +kernel
theorem dX6_line_99 : decode cX6_line 99 = .ok (.iconst 1, 1) := by decide +kernel
theorem dX6_line_100 : decode cX6_line 100 = .ok (.invokevirtual 82, 3) := by decide +kernel
theorem dX6_line_103 : decode cX6_line 103 = .ok (.return_, 1) := by decide +kernel
theorem dX6_reads_0 : decode cX6_reads 0 = .ok (.aload_n 0, 1) := by decide +kernel
theorem dX6_reads_1 : decode cX6_reads 1 = .ok (.iload_n 1, 1) := by decide +kernel
theorem dX6_reads_2 : decode cX6_reads 2 = .ok (.putfield 50, 3) := by decide +kernel
theorem dX6_reads_5 : decode cX6_reads 5 = .ok (.aload_n 0, 1) := by decide +kernel
theorem dX6_reads_6 : decode cX6_reads 6 = .ok (.iconst 0, 1) := by decide +kernel
theorem dX6_reads_7 : decode cX6_reads 7 = .ok (.putfield 53, 3) := by decide +kernel
theorem dX6_reads_10 : decode cX6_reads 10 = .ok (.aload_n 0, 1) := by decide +kernel
theorem dX6_reads_11 : decode cX6_reads 11 = .ok (.iconst 0, 1) := by decide +kernel
theorem dX6_reads_12 : decode cX6_reads 12 = .ok (.putfield 76, 3) := by decide +kernel
theorem dX6_reads_15 : decode cX6_reads 15 = .ok (.aload_n 0, 1) := by decide +kernel
theorem dX6_reads_16 : decode cX6_reads 16 = .ok (.iconst (-1), 1) := by decide +kernel
theorem dX6_reads_17 : decode cX6_reads 17 = .ok (.putfield 79, 3) := by decide +kernel
theorem dX6_reads_20 : decode cX6_reads 20 = .ok (.aload_n 0, 1) := by decide +kernel
theorem dX6_reads_21 : decode cX6_reads 21 = .ok (.iconst 0, 1) := by decide +kernel
theorem dX6_reads_22 : decode cX6_reads 22 = .ok (.putfield 123, 3) := by decide +kernel
theorem dX6_reads_25 : decode cX6_reads 25 = .ok (.aload_n 0, 1) := by decide +kernel
theorem dX6_reads_26 : decode cX6_reads 26 = .ok (.iconst 0, 1) := by decide +kernel
theorem dX6_reads_27 : decode cX6_reads 27 = .ok (.putfield 129, 3) := by decide +kernel
theorem dX6_reads_30 : decode cX6_reads 30 = .ok (.aload_n 0, 1) := by decide +kernel
theorem dX6_reads_31 : decode cX6_reads 31 = .ok (.iconst 0, 1) := by decide +kernel
theorem dX6_reads_32 : decode cX6_reads 32 = .ok (.putfield 120, 3) := by decide +kernel
theorem dX6_reads_35 : decode cX6_reads 35 = .ok (.aload_n 0, 1) := by decide +kernel
theorem dX6_reads_36 : decode cX6_reads 36 = .ok (.iconst 0, 1) := by decide +kernel
theorem dX6_reads_37 : decode cX6_reads 37 = .ok (.putfield 143, 3) := by decide +kernel
theorem dX6_reads_40 : decode cX6_reads 40 = .ok (.iconst 0, 1) := by decide +kernel
theorem dX6_reads_41 : decode cX6_reads 41 = .ok (.istore_n 2, 1) := by decide +kernel
theorem dX6_reads_42 : decode cX6_reads 42 = .ok (.iload_n 2, 1) := by decide +kernel
theorem dX6_reads_43 : decode cX6_reads 43 = .ok (.sipush 640, 3) := by decide +kernel
theorem dX6_reads_46 : decode cX6_reads 46 = .ok (.if_icmp .ge 33, 3) := by decide +kernel
theorem dX6_reads_49 : decode cX6_reads 49 = .ok (.aload_n 0, 1) := by decide +kernel
theorem dX6_reads_50 : decode cX6_reads 50 = .ok (.getfield 7, 3) := by decide +kernel
theorem dX6_reads_53 : decode cX6_reads 53 = .ok (.iload_n 2, 1) := by decide +kernel
theorem dX6_reads_54 : decode cX6_reads 54 = .ok (.iload_n 2, 1) := by decide +kernel
theorem dX6_reads_55 : decode cX6_reads 55 = .ok (.bipush 96, 2) := by decide +kernel
theorem dX6_reads_57 : decode cX6_reads 57 = .ok (.if_icmp .lt 14, 3) := by decide +kernel
theorem dX6_reads_60 : decode cX6_reads 60 = .ok (.iload_n 2, 1) := by decide +kernel
theorem dX6_reads_61 : decode cX6_reads 61 = .ok (.sipush 288, 3) := by decide +kernel
theorem dX6_reads_64 : decode cX6_reads 64 = .ok (.if_icmp .ge 7, 3) := by decide +kernel
theorem dX6_reads_67 : decode cX6_reads 67 = .ok (.iconst (-1), 1) := by decide +kernel
theorem dX6_reads_68 : decode cX6_reads 68 = .ok (.goto 4, 3) := by decide +kernel
theorem dX6_reads_71 : decode cX6_reads 71 = .ok (.iconst 0, 1) := by decide +kernel
theorem dX6_reads_72 : decode cX6_reads 72 = .ok (.iastore, 1) := by decide +kernel
theorem dX6_reads_73 : decode cX6_reads 73 = .ok (.iinc 2 1, 3) := by decide +kernel
theorem dX6_reads_76 : decode cX6_reads 76 = .ok (.goto (-34), 3) := by decide +kernel
theorem dX6_reads_79 : decode cX6_reads 79 = .ok (.aload_n 0, 1) := by decide +kernel
theorem dX6_reads_80 : decode cX6_reads 80 = .ok (.invokevirtual 86, 3) := by decide +kernel
theorem dX6_reads_83 : decode cX6_reads 83 = .ok (.aload_n 0, 1) := by decide +kernel
theorem dX6_reads_84 : decode cX6_reads 84 = .ok (.aload_n 0, 1) := by decide +kernel
theorem dX6_reads_85 : decode cX6_reads 85 = .ok (.ldc 180, 2) := by decide +kernel
theorem dX6_reads_87 : decode cX6_reads 87 = .ok (.iconst 1, 1) := by decide +kernel
theorem dX6_reads_88 : decode cX6_reads 88 = .ok (.bipush 96, 2) := by decide +kernel
theorem dX6_reads_90 : decode cX6_reads 90 = .ok (.invokevirtual 182, 3) := by decide +kernel
theorem dX6_reads_93 : decode cX6_reads 93 = .ok (.putfield 126, 3) := by decide +kernel
theorem dX6_reads_96 : decode cX6_reads 96 = .ok (.aload_n 0, 1) := by decide +kernel
theorem dX6_reads_97 : decode cX6_reads 97 = .ok (.getfield 7, 3) := by decide +kernel
theorem dX6_reads_100 : decode cX6_reads 100 = .ok (.sipush 384, 3) := by decide +kernel
theorem dX6_reads_103 : decode cX6_reads 103 = .ok (.aload_n 0, 1) := by decide +kernel
theorem dX6_reads_104 : decode cX6_reads 104 = .ok (.ldc 186, 2) := by decide +kernel
theorem dX6_reads_106 : decode cX6_reads 106 = .ok (.iconst 1, 1) := by decide +kernel
theorem dX6_reads_107 : decode cX6_reads 107 = .ok (.bipush 20, 2) := by decide +kernel
theorem dX6_reads_109 : decode cX6_reads 109 = .ok (.invokevirtual 182, 3) := by decide +kernel
theorem dX6_reads_112 : decode cX6_reads 112 = .ok (.iastore, 1) := by decide +kernel
theorem dX6_reads_113 : decode cX6_reads 113 = .ok (.aload_n 0, 1) := by decide +kernel
theorem dX6_reads_114 : decode cX6_reads 114 = .ok (.getfield 7, 3) := by decide +kernel
theorem dX6_reads_117 : decode cX6_reads 117 = .ok (.sipush 385, 3) := by decide +kernel
theorem dX6_reads_120 : decode cX6_reads 120 = .ok (.aload_n 0, 1) := by decide +kernel
theorem dX6_reads_121 : decode cX6_reads 121 = .ok (.ldc 188, 2) := by decide +kernel
theorem dX6_reads_123 : decode cX6_reads 123 = .ok (.iconst 0, 1) := by decide +kernel
theorem dX6_reads_124 : decode cX6_reads 124 = .ok (.bipush 96, 2) := by decide +kernel
theorem dX6_reads_126 : decode cX6_reads 126 = .ok (.invokevirtual 182, 3) := by decide +kernel
theorem dX6_reads_129 : decode cX6_reads 129 = .ok (.iastore, 1) := by decide +kernel
theorem dX6_reads_130 : decode cX6_reads 130 = .ok (.aload_n 0, 1) := by decide +kernel
theorem dX6_reads_131 : decode cX6_reads 131 = .ok (.getfield 7, 3) := by decide +kernel
theorem dX6_reads_134 : decode cX6_reads 134 = .ok (.sipush 386, 3) := by decide +kernel
theorem dX6_reads_137 : decode cX6_reads 137 = .ok (.aload_n 0, 1) := by decide +kernel
theorem dX6_reads_138 : decode cX6_reads 138 = .ok (.ldc 190, 2) := by decide +kernel
theorem dX6_reads_140 : decode cX6_reads 140 = .ok (.iconst 0, 1) := by decide +kernel
theorem dX6_reads_141 : decode cX6_reads 141 = .ok (.iconst 3, 1) := by decide +kernel
theorem dX6_reads_142 : decode cX6_reads 142 = .ok (.invokevirtual 182, 3) := by decide +kernel
theorem dX6_reads_145 : decode cX6_reads 145 = .ok (.iastore, 1) := by decide +kernel
theorem dX6_reads_146 : decode cX6_reads 146 = .ok (.aload_n 0, 1) := by decide +kernel
theorem dX6_reads_147 : decode cX6_reads 147 = .ok (.getfield 76, 3) := by decide +kernel
theorem dX6_reads_150 : decode cX6_reads 150 = .ok (.ifCond .ne 22, 3) := by decide +kernel
theorem dX6_reads_153 : decode cX6_reads 153 = .ok (.aload_n 0, 1) := by decide +kernel
theorem dX6_reads_154 : decode cX6_reads 154 = .ok (.getfield 63, 3) := by decide +kernel
theorem dX6_reads_157 : decode cX6_reads 157 = .ok (.iconst 3, 1) := by decide +kernel
theorem dX6_reads_158 : decode cX6_reads 158 = .ok (.if_icmp .ne 14, 3) := by decide +kernel
theorem dX6_reads_161 : decode cX6_reads 161 = .ok (.aload_n 0, 1) := by decide +kernel
theorem dX6_reads_162 : decode cX6_reads 162 = .ok (.invokevirtual 86, 3) := by decide +kernel
theorem dX6_reads_165 : decode cX6_reads 165 = .ok (.aload_n 0, 1) := by decide +kernel
theorem dX6_reads_166 : decode cX6_reads 166 = .ok (.invokevirtual 192, 3) := by decide +kernel
theorem dX6_reads_169 : decode cX6_reads 169 = .ok (.goto (-23), 3) := by decide +kernel
theorem dX6_reads_172 : decode cX6_reads 172 = .ok (.aload_n 0, 1) := by decide +kernel
theorem dX6_reads_173 : decode cX6_reads 173 = .ok (.aload_n 0, 1) := by decide +kernel
theorem dX6_reads_174 : decode cX6_reads 174 = .ok (.getfield 63, 3) := by decide +kernel
theorem dX6_reads_177 : decode cX6_reads 177 = .ok (.ifCond .eq 7, 3) := by decide +kernel
theorem dX6_reads_180 : decode cX6_reads 180 = .ok (.iconst 1, 1) := by decide +kernel
theorem dX6_reads_181 : decode cX6_reads 181 = .ok (.goto 4, 3) := by decide +kernel
theorem dX6_reads_184 : decode cX6_reads 184 = .ok (.iconst 0, 1) := by decide +kernel
theorem dX6_reads_185 : decode cX6_reads 185 = .ok (.iconst 1, 1) := by decide +kernel
theorem dX6_reads_186 : decode cX6_reads 186 = .ok (.invokevirtual 113, 3) := by decide +kernel
theorem dX6_reads_189 : decode cX6_reads 189 = .ok (.return_, 1) := by decide +kernel
theorem dX6_load_0 : decode cX6_load 0 = .ok (.aload_n 0, 1) := by decide +kernel
theorem dX6_load_1 : decode cX6_load 1 = .ok (.iconst 0, 1) := by decide +kernel
theorem dX6_load_2 : decode cX6_load 2 = .ok (.putfield 33, 3) := by decide +kernel
theorem dX6_load_5 : decode cX6_load 5 = .ok (.aload_n 0, 1) := by decide +kernel
theorem dX6_load_6 : decode cX6_load 6 = .ok (.iload_n 1, 1) := by decide +kernel
theorem dX6_load_7 : decode cX6_load 7 = .ok (.iconst 0, 1) := by decide +kernel
theorem dX6_load_8 : decode cX6_load 8 = .ok (.aload_n 0, 1) := by decide +kernel
theorem dX6_load_9 : decode cX6_load 9 = .ok (.getfield 44, 3) := by decide +kernel
theorem dX6_load_12 : decode cX6_load 12 = .ok (.invokestatic 98, 3) := by decide +kernel
theorem dX6_load_15 : decode cX6_load 15 = .ok (.ifCond .ne 7, 3) := by decide +kernel
theorem dX6_load_18 : decode cX6_load 18 = .ok (.iconst 1, 1) := by decide +kernel
theorem dX6_load_19 : decode cX6_load 19 = .ok (.goto 4, 3) := by decide +kernel
theorem dX6_load_22 : decode cX6_load 22 = .ok (.iconst 0, 1) := by decide +kernel
theorem dX6_load_23 : decode cX6_load 23 = .ok (.iconst 1, 1) := by decide +kernel
theorem dX6_load_24 : decode cX6_load 24 = .ok (.invokevirtual 40, 3) := by decide +kernel
theorem dX6_load_27 : decode cX6_load 27 = .ok (.ifCond .eq 5, 3) := by decide +kernel
theorem dX6_load_30 : decode cX6_load 30 = .ok (.iconst 0, 1) := by decide +kernel
theorem dX6_load_31 : decode cX6_load 31 = .ok (.ireturn, 1) := by decide +kernel
theorem dX6_load_32 : decode cX6_load 32 = .ok (.aload_n 0, 1) := by decide +kernel
theorem dX6_load_33 : decode cX6_load 33 = .ok (.iconst 0, 1) := by decide +kernel
theorem dX6_load_34 : decode cX6_load 34 = .ok (.putfield 44, 3) := by decide +kernel
theorem dX6_load_37 : decode cX6_load 37 = .ok (.aload_n 0, 1) := by decide +kernel
theorem dX6_load_38 : decode cX6_load 38 = .ok (.getfield 126, 3) := by decide +kernel
theorem dX6_load_41 : decode cX6_load 41 = .ok (.istore_n 2, 1) := by decide +kernel
theorem dX6_load_42 : decode cX6_load 42 = .ok (.aload_n 0, 1) := by decide +kernel
theorem dX6_load_43 : decode cX6_load 43 = .ok (.iconst 0, 1) := by decide +kernel
theorem dX6_load_44 : decode cX6_load 44 = .ok (.invokevirtual 195, 3) := by decide +kernel
theorem dX6_load_47 : decode cX6_load 47 = .ok (.aload_n 0, 1) := by decide +kernel
theorem dX6_load_48 : decode cX6_load 48 = .ok (.iload_n 1, 1) := by decide +kernel
theorem dX6_load_49 : decode cX6_load 49 = .ok (.invokevirtual 198, 3) := by decide +kernel
theorem dX6_load_52 : decode cX6_load 52 = .ok (.aload_n 0, 1) := by decide +kernel
theorem dX6_load_53 : decode cX6_load 53 = .ok (.aload_n 0, 1) := by decide +kernel
theorem dX6_load_54 : decode cX6_load 54 = .ok (.getfield 76, 3) := by decide +kernel
theorem dX6_load_57 : decode cX6_load 57 = .ok (.putfield 47, 3) := by decide +kernel
theorem dX6_load_60 : decode cX6_load 60 = .ok (.aload_n 0, 1) := by decide +kernel
theorem dX6_load_61 : decode cX6_load 61 = .ok (.aload_n 0, 1) := by decide +kernel
theorem dX6_load_62 : decode cX6_load 62 = .ok (.getfield 76, 3) := by decide +kernel
theorem dX6_load_65 : decode cX6_load 65 = .ok (.ifCond .ne 7, 3) := by decide +kernel
theorem dX6_load_68 : decode cX6_load 68 = .ok (.iconst (-1), 1) := by decide +kernel
theorem dX6_load_69 : decode cX6_load 69 = .ok (.goto 7, 3) := by decide +kernel
theorem dX6_load_72 : decode cX6_load 72 = .ok (.aload_n 0, 1) := by decide +kernel
theorem dX6_load_73 : decode cX6_load 73 = .ok (.getfield 79, 3) := by decide +kernel
theorem dX6_load_76 : decode cX6_load 76 = .ok (.putfield 23, 3) := by decide +kernel
theorem dX6_load_79 : decode cX6_load 79 = .ok (.aload_n 0, 1) := by decide +kernel
theorem dX6_load_80 : decode cX6_load 80 = .ok (.aload_n 0, 1) := by decide +kernel
theorem dX6_load_81 : decode cX6_load 81 = .ok (.getfield 76, 3) := by decide +kernel
theorem dX6_load_84 : decode cX6_load 84 = .ok (.ifCond .eq 7, 3) := by decide +kernel
theorem dX6_load_87 : decode cX6_load 87 = .ok (.iconst 1, 1) := by decide +kernel
theorem dX6_load_88 : decode cX6_load 88 = .ok (.goto 4, 3) := by decide +kernel
theorem dX6_load_91 : decode cX6_load 91 = .ok (.iconst 0, 1) := by decide +kernel
theorem dX6_load_92 : decode cX6_load 92 = .ok (.iconst 2, 1) := by decide +kernel
theorem dX6_load_93 : decode cX6_load 93 = .ok (.invokevirtual 40, 3) := by decide +kernel
theorem dX6_load_96 : decode cX6_load 96 = .ok (.ifCond .eq 15, 3) := by decide +kernel
theorem dX6_load_99 : decode cX6_load 99 = .ok (.aload_n 0, 1) := by decide +kernel
theorem dX6_load_100 : decode cX6_load 100 = .ok (.iload_n 2, 1) := by decide +kernel
theorem dX6_load_101 : decode cX6_load 101 = .ok (.putfield 126, 3) := by decide +kernel
theorem dX6_load_104 : decode cX6_load 104 = .ok (.aload_n 0, 1) := by decide +kernel
theorem dX6_load_105 : decode cX6_load 105 = .ok (.iconst 0, 1) := by decide +kernel
theorem dX6_load_106 : decode cX6_load 106 = .ok (.invokevirtual 201, 3) := by decide +kernel
theorem dX6_load_109 : decode cX6_load 109 = .ok (.iconst 0, 1) := by decide +kernel
theorem dX6_load_110 : decode cX6_load 110 = .ok (.ireturn, 1) := by decide +kernel
theorem dX6_load_111 : decode cX6_load 111 = .ok (.aload_n 0, 1) := by decide +kernel
theorem dX6_load_112 : decode cX6_load 112 = .ok (.iconst 1, 1) := by decide +kernel
theorem dX6_load_113 : decode cX6_load 113 = .ok (.putfield 36, 3) := by decide +kernel
theorem dX6_load_116 : decode cX6_load 116 = .ok (.aload_n 0, 1) := by decide +kernel
theorem dX6_load_117 : decode cX6_load 117 = .ok (.iconst 0, 1) := by decide +kernel
theorem dX6_load_118 : decode cX6_load 118 = .ok (.putfield 204, 3) := by decide +kernel
theorem dX6_load_121 : decode cX6_load 121 = .ok (.aload_n 0, 1) := by decide +kernel
theorem dX6_load_122 : decode cX6_load 122 = .ok (.getfield 16, 3) := by decide +kernel
theorem dX6_load_125 : decode cX6_load 125 = .ok (.iconst 0, 1) := by decide +kernel
theorem dX6_load_126 : decode cX6_load 126 = .ok (.iconst 0, 1) := by decide +kernel
theorem dX6_load_127 : decode cX6_load 127 = .ok (.bastore, 1) := by decide +kernel
theorem dX6_load_128 : decode cX6_load 128 = .ok (.aload_n 0, 1) := by decide +kernel
theorem dX6_load_129 : decode cX6_load 129 = .ok (.getfield 16, 3) := by decide +kernel
theorem dX6_load_132 : decode cX6_load 132 = .ok (.iconst 1, 1) := by decide +kernel
theorem dX6_load_133 : decode cX6_load 133 = .ok (.iconst 0, 1) := by decide +kernel
theorem dX6_load_134 : decode cX6_load 134 = .ok (.bastore, 1) := by decide +kernel
theorem dX6_load_135 : decode cX6_load 135 = .ok (.aload_n 0, 1) := by decide +kernel
theorem dX6_load_136 : decode cX6_load 136 = .ok (.getfield 126, 3) := by decide +kernel
theorem dX6_load_139 : decode cX6_load 139 = .ok (.ireturn, 1) := by decide +kernel
theorem dX6_isPlace_0 : decode cX6_isPlace 0 = .ok (.iload_n 1, 1) := by decide +kernel
theorem dX6_isPlace_1 : decode cX6_isPlace 1 = .ok (.iconst 0, 1) := by decide +kernel
theorem dX6_isPlace_2 : decode cX6_isPlace 2 = .ok (.aload_n 0, 1) := by decide +kernel
theorem dX6_isPlace_3 : decode cX6_isPlace 3 = .ok (.getfield 126, 3) := by decide +kernel
theorem dX6_isPlace_6 : decode cX6_isPlace 6 = .ok (.iconst 1, 1) := by decide +kernel
theorem dX6_isPlace_7 : decode cX6_isPlace 7 = .ok (.isub, 1) := by decide +kernel
theorem dX6_isPlace_8 : decode cX6_isPlace 8 = .ok (.invokestatic 98, 3) := by decide +kernel
theorem dX6_isPlace_11 : decode cX6_isPlace 11 = .ok (.ireturn, 1) := by decide +kernel
theorem dX6_noPlace_0 : decode cX6_noPlace 0 = .ok (.aload_n 0, 1) := by decide +kernel
theorem dX6_noPlace_1 : decode cX6_noPlace 1 = .ok (.invokevirtual 207, 3) := by decide +kernel
theorem dX6_noPlace_4 : decode cX6_noPlace 4 = .ok (.ifCond .ne 24, 3) := by decide +kernel
theorem dX6_noPlace_7 : decode cX6_noPlace 7 = .ok (.aload_n 0, 1) := by decide +kernel
theorem dX6_noPlace_8 : decode cX6_noPlace 8 = .ok (.aload_n 0, 1) := by decide +kernel
theorem dX6_noPlace_9 : decode cX6_noPlace 9 = .ok (.iload_n 1, 1) := by decide +kernel
theorem dX6_noPlace_10 : decode cX6_noPlace 10 = .ok (.invokevirtual 211, 3) := by decide +kernel
theorem dX6_noPlace_13 : decode cX6_noPlace 13 = .ok (.ifCond .ne 7, 3) := by decide +kernel
theorem dX6_noPlace_16 : decode cX6_noPlace 16 = .ok (.iconst 1, 1) := by decide +kernel
theorem dX6_noPlace_17 : decode cX6_noPlace 17 = .ok (.goto 4, 3) := by decide +kernel
theorem dX6_noPlace_20 : decode cX6_noPlace 20 = .ok (.iconst 0, 1) := by decide +kernel
theorem dX6_noPlace_21 : decode cX6_noPlace 21 = .ok (.iconst 2, 1) := by decide +kernel
theorem dX6_noPlace_22 : decode cX6_noPlace 22 = .ok (.invokevirtual 40, 3) := by decide +kernel
theorem dX6_noPlace_25 : decode cX6_noPlace 25 = .ok (.ifCond .eq 7, 3) := by decide +kernel
theorem dX6_noPlace_28 : decode cX6_noPlace 28 = .ok (.iconst 1, 1) := by decide +kernel
theorem dX6_noPlace_29 : decode cX6_noPlace 29 = .ok (.goto 4, 3) := by decide +kernel
theorem dX6_noPlace_32 : decode cX6_noPlace 32 = .ok (.iconst 0, 1) := by decide +kernel
theorem dX6_noPlace_33 : decode cX6_noPlace 33 = .ok (.ireturn, 1) := by decide +kernel
theorem dX6_told_0 : decode cX6_told 0 = .ok (.aload_n 0, 1) := by decide +kernel
theorem dX6_told_1 : decode cX6_told 1 = .ok (.iconst 0, 1) := by decide +kernel
theorem dX6_told_2 : decode cX6_told 2 = .ok (.putfield 33, 3) := by decide +kernel
theorem dX6_told_5 : decode cX6_told 5 = .ok (.aload_n 0, 1) := by decide +kernel
theorem dX6_told_6 : decode cX6_told 6 = .ok (.getfield 36, 3) := by decide +kernel
theorem dX6_told_9 : decode cX6_told 9 = .ok (.ifCond .eq 7, 3) := by decide +kernel
theorem dX6_told_12 : decode cX6_told 12 = .ok (.iload_n 1, 1) := by decide +kernel
theorem dX6_told_13 : decode cX6_told 13 = .ok (.goto 4, 3) := by decide +kernel
theorem dX6_told_16 : decode cX6_told 16 = .ok (.iconst 0, 1) := by decide +kernel
theorem dX6_told_17 : decode cX6_told 17 = .ok (.ireturn, 1) := by decide +kernel
theorem dX6_size_0 : decode cX6_size 0 = .ok (.aload_n 0, 1) := by decide +kernel
theorem dX6_size_1 : decode cX6_size 1 = .ok (.aload_n 0, 1) := by decide +kernel
theorem dX6_size_2 : decode cX6_size 2 = .ok (.getfield 126, 3) := by decide +kernel
theorem dX6_size_5 : decode cX6_size 5 = .ok (.invokevirtual 214, 3) := by decide +kernel
theorem dX6_size_8 : decode cX6_size 8 = .ok (.ireturn, 1) := by decide +kernel
theorem dX6_events_0 : decode cX6_events 0 = .ok (.aload_n 0, 1) := by decide +kernel
theorem dX6_events_1 : decode cX6_events 1 = .ok (.aload_n 0, 1) := by decide +kernel
theorem dX6_events_2 : decode cX6_events 2 = .ok (.getfield 7, 3) := by decide +kernel
theorem dX6_events_5 : decode cX6_events 5 = .ok (.sipush 399, 3) := by decide +kernel
theorem dX6_events_8 : decode cX6_events 8 = .ok (.iaload, 1) := by decide +kernel
theorem dX6_events_9 : decode cX6_events 9 = .ok (.invokevirtual 214, 3) := by decide +kernel
theorem dX6_events_12 : decode cX6_events 12 = .ok (.ireturn, 1) := by decide +kernel
theorem dX6_undoable_0 : decode cX6_undoable 0 = .ok (.aload_n 0, 1) := by decide +kernel
theorem dX6_undoable_1 : decode cX6_undoable 1 = .ok (.aload_n 0, 1) := by decide +kernel
theorem dX6_undoable_2 : decode cX6_undoable 2 = .ok (.getfield 204, 3) := by decide +kernel
theorem dX6_undoable_5 : decode cX6_undoable 5 = .ok (.invokevirtual 214, 3) := by decide +kernel
theorem dX6_undoable_8 : decode cX6_undoable 8 = .ok (.ireturn, 1) := by decide +kernel
theorem dX6_owes_0 : decode cX6_owes 0 = .ok (.aload_n 0, 1) := by decide +kernel
theorem dX6_owes_1 : decode cX6_owes 1 = .ok (.getfield 7, 3) := by decide +kernel
theorem dX6_owes_4 : decode cX6_owes 4 = .ok (.bipush 96, 2) := by decide +kernel
theorem dX6_owes_6 : decode cX6_owes 6 = .ok (.iload_n 1, 1) := by decide +kernel
theorem dX6_owes_7 : decode cX6_owes 7 = .ok (.iadd, 1) := by decide +kernel
theorem dX6_owes_8 : decode cX6_owes 8 = .ok (.iaload, 1) := by decide +kernel
theorem dX6_owes_9 : decode cX6_owes 9 = .ok (.iconst (-1), 1) := by decide +kernel
theorem dX6_owes_10 : decode cX6_owes 10 = .ok (.if_icmp .eq 7, 3) := by decide +kernel
theorem dX6_owes_13 : decode cX6_owes 13 = .ok (.iconst 1, 1) := by decide +kernel
theorem dX6_owes_14 : decode cX6_owes 14 = .ok (.goto 4, 3) := by decide +kernel
theorem dX6_owes_17 : decode cX6_owes 17 = .ok (.iconst 0, 1) := by decide +kernel
theorem dX6_owes_18 : decode cX6_owes 18 = .ok (.ireturn, 1) := by decide +kernel
theorem dX6_hopsOf_0 : decode cX6_hopsOf 0 = .ok (.iconst 0, 1) := by decide +kernel
theorem dX6_hopsOf_1 : decode cX6_hopsOf 1 = .ok (.istore_n 2, 1) := by decide +kernel
theorem dX6_hopsOf_2 : decode cX6_hopsOf 2 = .ok (.iload_n 1, 1) := by decide +kernel
theorem dX6_hopsOf_3 : decode cX6_hopsOf 3 = .ok (.istore_n 3, 1) := by decide +kernel
theorem dX6_hopsOf_4 : decode cX6_hopsOf 4 = .ok (.aload_n 0, 1) := by decide +kernel
theorem dX6_hopsOf_5 : decode cX6_hopsOf 5 = .ok (.iload_n 3, 1) := by decide +kernel
theorem dX6_hopsOf_6 : decode cX6_hopsOf 6 = .ok (.invokevirtual 217, 3) := by decide +kernel
theorem dX6_hopsOf_9 : decode cX6_hopsOf 9 = .ok (.ifCond .eq 19, 3) := by decide +kernel
theorem dX6_hopsOf_12 : decode cX6_hopsOf 12 = .ok (.iinc 2 1, 3) := by decide +kernel
theorem dX6_hopsOf_15 : decode cX6_hopsOf 15 = .ok (.aload_n 0, 1) := by decide +kernel
theorem dX6_hopsOf_16 : decode cX6_hopsOf 16 = .ok (.getfield 7, 3) := by decide +kernel
theorem dX6_hopsOf_19 : decode cX6_hopsOf 19 = .ok (.bipush 96, 2) := by decide +kernel
theorem dX6_hopsOf_21 : decode cX6_hopsOf 21 = .ok (.iload_n 3, 1) := by decide +kernel
theorem dX6_hopsOf_22 : decode cX6_hopsOf 22 = .ok (.iadd, 1) := by decide +kernel
theorem dX6_hopsOf_23 : decode cX6_hopsOf 23 = .ok (.iaload, 1) := by decide +kernel
theorem dX6_hopsOf_24 : decode cX6_hopsOf 24 = .ok (.istore_n 3, 1) := by decide +kernel
theorem dX6_hopsOf_25 : decode cX6_hopsOf 25 = .ok (.goto (-21), 3) := by decide +kernel
theorem dX6_hopsOf_28 : decode cX6_hopsOf 28 = .ok (.iload_n 2, 1) := by decide +kernel
theorem dX6_hopsOf_29 : decode cX6_hopsOf 29 = .ok (.ireturn, 1) := by decide +kernel
theorem dX6_rootOf_0 : decode cX6_rootOf 0 = .ok (.iload_n 1, 1) := by decide +kernel
theorem dX6_rootOf_1 : decode cX6_rootOf 1 = .ok (.istore_n 2, 1) := by decide +kernel
theorem dX6_rootOf_2 : decode cX6_rootOf 2 = .ok (.aload_n 0, 1) := by decide +kernel
theorem dX6_rootOf_3 : decode cX6_rootOf 3 = .ok (.iload_n 2, 1) := by decide +kernel
theorem dX6_rootOf_4 : decode cX6_rootOf 4 = .ok (.invokevirtual 217, 3) := by decide +kernel
theorem dX6_rootOf_7 : decode cX6_rootOf 7 = .ok (.ifCond .eq 16, 3) := by decide +kernel
theorem dX6_rootOf_10 : decode cX6_rootOf 10 = .ok (.aload_n 0, 1) := by decide +kernel
theorem dX6_rootOf_11 : decode cX6_rootOf 11 = .ok (.getfield 7, 3) := by decide +kernel
theorem dX6_rootOf_14 : decode cX6_rootOf 14 = .ok (.bipush 96, 2) := by decide +kernel
theorem dX6_rootOf_16 : decode cX6_rootOf 16 = .ok (.iload_n 2, 1) := by decide +kernel
theorem dX6_rootOf_17 : decode cX6_rootOf 17 = .ok (.iadd, 1) := by decide +kernel
theorem dX6_rootOf_18 : decode cX6_rootOf 18 = .ok (.iaload, 1) := by decide +kernel
theorem dX6_rootOf_19 : decode cX6_rootOf 19 = .ok (.istore_n 2, 1) := by decide +kernel
theorem dX6_rootOf_20 : decode cX6_rootOf 20 = .ok (.goto (-18), 3) := by decide +kernel
theorem dX6_rootOf_23 : decode cX6_rootOf 23 = .ok (.iload_n 2, 1) := by decide +kernel
theorem dX6_rootOf_24 : decode cX6_rootOf 24 = .ok (.ireturn, 1) := by decide +kernel
theorem dX6_valueOf_0 : decode cX6_valueOf 0 = .ok (.aload_n 0, 1) := by decide +kernel
theorem dX6_valueOf_1 : decode cX6_valueOf 1 = .ok (.getfield 7, 3) := by decide +kernel
theorem dX6_valueOf_4 : decode cX6_valueOf 4 = .ok (.iconst 0, 1) := by decide +kernel
theorem dX6_valueOf_5 : decode cX6_valueOf 5 = .ok (.aload_n 0, 1) := by decide +kernel
theorem dX6_valueOf_6 : decode cX6_valueOf 6 = .ok (.iload_n 1, 1) := by decide +kernel
theorem dX6_valueOf_7 : decode cX6_valueOf 7 = .ok (.invokevirtual 220, 3) := by decide +kernel
theorem dX6_valueOf_10 : decode cX6_valueOf 10 = .ok (.iadd, 1) := by decide +kernel
theorem dX6_valueOf_11 : decode cX6_valueOf 11 = .ok (.iaload, 1) := by decide +kernel
theorem dX6_valueOf_12 : decode cX6_valueOf 12 = .ok (.ireturn, 1) := by decide +kernel
theorem dX6_setting_0 : decode cX6_setting 0 = .ok (.aload_n 0, 1) := by decide +kernel
theorem dX6_setting_1 : decode cX6_setting 1 = .ok (.invokevirtual 207, 3) := by decide +kernel
theorem dX6_setting_4 : decode cX6_setting 4 = .ok (.ifCond .ne 25, 3) := by decide +kernel
theorem dX6_setting_7 : decode cX6_setting 7 = .ok (.aload_n 0, 1) := by decide +kernel
theorem dX6_setting_8 : decode cX6_setting 8 = .ok (.iload_n 1, 1) := by decide +kernel
theorem dX6_setting_9 : decode cX6_setting 9 = .ok (.iconst 0, 1) := by decide +kernel
theorem dX6_setting_10 : decode cX6_setting 10 = .ok (.iconst 4, 1) := by decide +kernel
theorem dX6_setting_11 : decode cX6_setting 11 = .ok (.invokestatic 98, 3) := by decide +kernel
theorem dX6_setting_14 : decode cX6_setting 14 = .ok (.ifCond .ne 7, 3) := by decide +kernel
theorem dX6_setting_17 : decode cX6_setting 17 = .ok (.iconst 1, 1) := by decide +kernel
theorem dX6_setting_18 : decode cX6_setting 18 = .ok (.goto 4, 3) := by decide +kernel
theorem dX6_setting_21 : decode cX6_setting 21 = .ok (.iconst 0, 1) := by decide +kernel
theorem dX6_setting_22 : decode cX6_setting 22 = .ok (.iconst 2, 1) := by decide +kernel
theorem dX6_setting_23 : decode cX6_setting 23 = .ok (.invokevirtual 40, 3) := by decide +kernel
theorem dX6_setting_26 : decode cX6_setting 26 = .ok (.ifCond .eq 7, 3) := by decide +kernel
theorem dX6_setting_29 : decode cX6_setting 29 = .ok (.iconst 0, 1) := by decide +kernel
theorem dX6_setting_30 : decode cX6_setting 30 = .ok (.goto 13, 3) := by decide +kernel
theorem dX6_setting_33 : decode cX6_setting 33 = .ok (.aload_n 0, 1) := by decide +kernel
theorem dX6_setting_34 : decode cX6_setting 34 = .ok (.getfield 7, 3) := by decide +kernel
theorem dX6_setting_37 : decode cX6_setting 37 = .ok (.sipush 384, 3) := by decide +kernel
theorem dX6_setting_40 : decode cX6_setting 40 = .ok (.iload_n 1, 1) := by decide +kernel
theorem dX6_setting_41 : decode cX6_setting 41 = .ok (.iadd, 1) := by decide +kernel
theorem dX6_setting_42 : decode cX6_setting 42 = .ok (.iaload, 1) := by decide +kernel
theorem dX6_setting_43 : decode cX6_setting 43 = .ok (.ireturn, 1) := by decide +kernel
theorem dX6_stored_0 : decode cX6_stored 0 = .ok (.aload_n 0, 1) := by decide +kernel
theorem dX6_stored_1 : decode cX6_stored 1 = .ok (.iload_n 1, 1) := by decide +kernel
theorem dX6_stored_2 : decode cX6_stored 2 = .ok (.invokevirtual 223, 3) := by decide +kernel
theorem dX6_stored_5 : decode cX6_stored 5 = .ok (.ifCond .eq 7, 3) := by decide +kernel
theorem dX6_stored_8 : decode cX6_stored 8 = .ok (.iconst 0, 1) := by decide +kernel
theorem dX6_stored_9 : decode cX6_stored 9 = .ok (.goto 11, 3) := by decide +kernel
theorem dX6_stored_12 : decode cX6_stored 12 = .ok (.aload_n 0, 1) := by decide +kernel
theorem dX6_stored_13 : decode cX6_stored 13 = .ok (.getfield 7, 3) := by decide +kernel
theorem dX6_stored_16 : decode cX6_stored 16 = .ok (.iconst 0, 1) := by decide +kernel
theorem dX6_stored_17 : decode cX6_stored 17 = .ok (.iload_n 1, 1) := by decide +kernel
theorem dX6_stored_18 : decode cX6_stored 18 = .ok (.iadd, 1) := by decide +kernel
theorem dX6_stored_19 : decode cX6_stored 19 = .ok (.iaload, 1) := by decide +kernel
theorem dX6_stored_20 : decode cX6_stored 20 = .ok (.ireturn, 1) := by decide +kernel
theorem dX6_value_0 : decode cX6_value 0 = .ok (.aload_n 0, 1) := by decide +kernel
theorem dX6_value_1 : decode cX6_value 1 = .ok (.iload_n 1, 1) := by decide +kernel
theorem dX6_value_2 : decode cX6_value 2 = .ok (.invokevirtual 223, 3) := by decide +kernel
theorem dX6_value_5 : decode cX6_value 5 = .ok (.ifCond .eq 7, 3) := by decide +kernel
theorem dX6_value_8 : decode cX6_value 8 = .ok (.iconst 0, 1) := by decide +kernel
theorem dX6_value_9 : decode cX6_value 9 = .ok (.goto 8, 3) := by decide +kernel
theorem dX6_value_12 : decode cX6_value 12 = .ok (.aload_n 0, 1) := by decide +kernel
theorem dX6_value_13 : decode cX6_value 13 = .ok (.iload_n 1, 1) := by decide +kernel
theorem dX6_value_14 : decode cX6_value 14 = .ok (.invokevirtual 226, 3) := by decide +kernel
theorem dX6_value_17 : decode cX6_value 17 = .ok (.ireturn, 1) := by decide +kernel
theorem dX6_source_0 : decode cX6_source 0 = .ok (.aload_n 0, 1) := by decide +kernel
theorem dX6_source_1 : decode cX6_source 1 = .ok (.iload_n 1, 1) := by decide +kernel
theorem dX6_source_2 : decode cX6_source 2 = .ok (.invokevirtual 223, 3) := by decide +kernel
theorem dX6_source_5 : decode cX6_source 5 = .ok (.ifCond .eq 7, 3) := by decide +kernel
theorem dX6_source_8 : decode cX6_source 8 = .ok (.iconst 0, 1) := by decide +kernel
theorem dX6_source_9 : decode cX6_source 9 = .ok (.goto 12, 3) := by decide +kernel
theorem dX6_source_12 : decode cX6_source 12 = .ok (.aload_n 0, 1) := by decide +kernel
theorem dX6_source_13 : decode cX6_source 13 = .ok (.getfield 7, 3) := by decide +kernel
theorem dX6_source_16 : decode cX6_source 16 = .ok (.bipush 96, 2) := by decide +kernel
theorem dX6_source_18 : decode cX6_source 18 = .ok (.iload_n 1, 1) := by decide +kernel
theorem dX6_source_19 : decode cX6_source 19 = .ok (.iadd, 1) := by decide +kernel
theorem dX6_source_20 : decode cX6_source 20 = .ok (.iaload, 1) := by decide +kernel
theorem dX6_source_21 : decode cX6_source 21 = .ok (.ireturn, 1) := by decide +kernel
theorem dX6_promise_0 : decode cX6_promise 0 = .ok (.aload_n 0, 1) := by decide +kernel
theorem dX6_promise_1 : decode cX6_promise 1 = .ok (.iload_n 1, 1) := by decide +kernel
theorem dX6_promise_2 : decode cX6_promise 2 = .ok (.invokevirtual 223, 3) := by decide +kernel
theorem dX6_promise_5 : decode cX6_promise 5 = .ok (.ifCond .eq 7, 3) := by decide +kernel
theorem dX6_promise_8 : decode cX6_promise 8 = .ok (.iconst 0, 1) := by decide +kernel
theorem dX6_promise_9 : decode cX6_promise 9 = .ok (.goto 13, 3) := by decide +kernel
theorem dX6_promise_12 : decode cX6_promise 12 = .ok (.aload_n 0, 1) := by decide +kernel
theorem dX6_promise_13 : decode cX6_promise 13 = .ok (.getfield 7, 3) := by decide +kernel
theorem dX6_promise_16 : decode cX6_promise 16 = .ok (.sipush 192, 3) := by decide +kernel
theorem dX6_promise_19 : decode cX6_promise 19 = .ok (.iload_n 1, 1) := by decide +kernel
theorem dX6_promise_20 : decode cX6_promise 20 = .ok (.iadd, 1) := by decide +kernel
theorem dX6_promise_21 : decode cX6_promise 21 = .ok (.iaload, 1) := by decide +kernel
theorem dX6_promise_22 : decode cX6_promise 22 = .ok (.ireturn, 1) := by decide +kernel
theorem dX6_hops_0 : decode cX6_hops 0 = .ok (.aload_n 0, 1) := by decide +kernel
theorem dX6_hops_1 : decode cX6_hops 1 = .ok (.iload_n 1, 1) := by decide +kernel
theorem dX6_hops_2 : decode cX6_hops 2 = .ok (.invokevirtual 223, 3) := by decide +kernel
theorem dX6_hops_5 : decode cX6_hops 5 = .ok (.ifCond .eq 7, 3) := by decide +kernel
theorem dX6_hops_8 : decode cX6_hops 8 = .ok (.iconst 0, 1) := by decide +kernel
theorem dX6_hops_9 : decode cX6_hops 9 = .ok (.goto 8, 3) := by decide +kernel
theorem dX6_hops_12 : decode cX6_hops 12 = .ok (.aload_n 0, 1) := by decide +kernel
theorem dX6_hops_13 : decode cX6_hops 13 = .ok (.iload_n 1, 1) := by decide +kernel
theorem dX6_hops_14 : decode cX6_hops 14 = .ok (.invokevirtual 229, 3) := by decide +kernel
theorem dX6_hops_17 : decode cX6_hops 17 = .ok (.ireturn, 1) := by decide +kernel
theorem dX6_root_0 : decode cX6_root 0 = .ok (.aload_n 0, 1) := by decide +kernel
theorem dX6_root_1 : decode cX6_root 1 = .ok (.iload_n 1, 1) := by decide +kernel
theorem dX6_root_2 : decode cX6_root 2 = .ok (.invokevirtual 223, 3) := by decide +kernel
theorem dX6_root_5 : decode cX6_root 5 = .ok (.ifCond .eq 7, 3) := by decide +kernel
theorem dX6_root_8 : decode cX6_root 8 = .ok (.iconst 0, 1) := by decide +kernel
theorem dX6_root_9 : decode cX6_root 9 = .ok (.goto 8, 3) := by decide +kernel
theorem dX6_root_12 : decode cX6_root 12 = .ok (.aload_n 0, 1) := by decide +kernel
theorem dX6_root_13 : decode cX6_root 13 = .ok (.iload_n 1, 1) := by decide +kernel
theorem dX6_root_14 : decode cX6_root 14 = .ok (.invokevirtual 220, 3) := by decide +kernel
theorem dX6_root_17 : decode cX6_root 17 = .ok (.ireturn, 1) := by decide +kernel
theorem dX6_isLocked_0 : decode cX6_isLocked 0 = .ok (.aload_n 0, 1) := by decide +kernel
theorem dX6_isLocked_1 : decode cX6_isLocked 1 = .ok (.iload_n 1, 1) := by decide +kernel
theorem dX6_isLocked_2 : decode cX6_isLocked 2 = .ok (.invokevirtual 223, 3) := by decide +kernel
theorem dX6_isLocked_5 : decode cX6_isLocked 5 = .ok (.ifCond .ne 21, 3) := by decide +kernel
theorem dX6_isLocked_8 : decode cX6_isLocked 8 = .ok (.aload_n 0, 1) := by decide +kernel
theorem dX6_isLocked_9 : decode cX6_isLocked 9 = .ok (.getfield 7, 3) := by decide +kernel
theorem dX6_isLocked_12 : decode cX6_isLocked 12 = .ok (.sipush 288, 3) := by decide +kernel
theorem dX6_isLocked_15 : decode cX6_isLocked 15 = .ok (.iload_n 1, 1) := by decide +kernel
theorem dX6_isLocked_16 : decode cX6_isLocked 16 = .ok (.iadd, 1) := by decide +kernel
theorem dX6_isLocked_17 : decode cX6_isLocked 17 = .ok (.iaload, 1) := by decide +kernel
theorem dX6_isLocked_18 : decode cX6_isLocked 18 = .ok (.iconst 1, 1) := by decide +kernel
theorem dX6_isLocked_19 : decode cX6_isLocked 19 = .ok (.if_icmp .ne 7, 3) := by decide +kernel
theorem dX6_isLocked_22 : decode cX6_isLocked 22 = .ok (.iconst 1, 1) := by decide +kernel
theorem dX6_isLocked_23 : decode cX6_isLocked 23 = .ok (.goto 4, 3) := by decide +kernel
theorem dX6_isLocked_26 : decode cX6_isLocked 26 = .ok (.iconst 0, 1) := by decide +kernel
theorem dX6_isLocked_27 : decode cX6_isLocked 27 = .ok (.ireturn, 1) := by decide +kernel
theorem dX6_dependents_0 : decode cX6_dependents 0 = .ok (.aload_n 0, 1) := by decide +kernel
theorem dX6_dependents_1 : decode cX6_dependents 1 = .ok (.iload_n 1, 1) := by decide +kernel
theorem dX6_dependents_2 : decode cX6_dependents 2 = .ok (.invokevirtual 223, 3) := by decide +kernel
theorem dX6_dependents_5 : decode cX6_dependents 5 = .ok (.ifCond .eq 5, 3) := by decide +kernel
theorem dX6_dependents_8 : decode cX6_dependents 8 = .ok (.iconst 0, 1) := by decide +kernel
theorem dX6_dependents_9 : decode cX6_dependents 9 = .ok (.ireturn, 1) := by decide +kernel
theorem dX6_dependents_10 : decode cX6_dependents 10 = .ok (.iconst 0, 1) := by decide +kernel
theorem dX6_dependents_11 : decode cX6_dependents 11 = .ok (.istore_n 3, 1) := by decide +kernel
theorem dX6_dependents_12 : decode cX6_dependents 12 = .ok (.iconst 0, 1) := by decide +kernel
theorem dX6_dependents_13 : decode cX6_dependents 13 = .ok (.istore 4, 2) := by decide +kernel
theorem dX6_dependents_15 : decode cX6_dependents 15 = .ok (.iload 4, 2) := by decide +kernel
theorem dX6_dependents_17 : decode cX6_dependents 17 = .ok (.aload_n 0, 1) := by decide +kernel
theorem dX6_dependents_18 : decode cX6_dependents 18 = .ok (.getfield 126, 3) := by decide +kernel
theorem dX6_dependents_21 : decode cX6_dependents 21 = .ok (.if_icmp .ge 69, 3) := by decide +kernel
theorem dX6_dependents_24 : decode cX6_dependents 24 = .ok (.aload_n 0, 1) := by decide +kernel
theorem dX6_dependents_25 : decode cX6_dependents 25 = .ok (.getfield 7, 3) := by decide +kernel
theorem dX6_dependents_28 : decode cX6_dependents 28 = .ok (.bipush 96, 2) := by decide +kernel
theorem dX6_dependents_30 : decode cX6_dependents 30 = .ok (.iload 4, 2) := by decide +kernel
theorem dX6_dependents_32 : decode cX6_dependents 32 = .ok (.iadd, 1) := by decide +kernel
theorem dX6_dependents_33 : decode cX6_dependents 33 = .ok (.iaload, 1) := by decide +kernel
theorem dX6_dependents_34 : decode cX6_dependents 34 = .ok (.istore 5, 2) := by decide +kernel
theorem dX6_dependents_36 : decode cX6_dependents 36 = .ok (.iload_n 2, 1) := by decide +kernel
theorem dX6_dependents_37 : decode cX6_dependents 37 = .ok (.ifCond .eq 30, 3) := by decide +kernel
theorem dX6_dependents_40 : decode cX6_dependents 40 = .ok (.iload 5, 2) := by decide +kernel
theorem dX6_dependents_42 : decode cX6_dependents 42 = .ok (.iconst (-1), 1) := by decide +kernel
theorem dX6_dependents_43 : decode cX6_dependents 43 = .ok (.if_icmp .eq 24, 3) := by decide +kernel
theorem dX6_dependents_46 : decode cX6_dependents 46 = .ok (.iload 5, 2) := by decide +kernel
theorem dX6_dependents_48 : decode cX6_dependents 48 = .ok (.iload_n 1, 1) := by decide +kernel
theorem dX6_dependents_49 : decode cX6_dependents 49 = .ok (.if_icmp .eq 18, 3) := by decide +kernel
theorem dX6_dependents_52 : decode cX6_dependents 52 = .ok (.aload_n 0, 1) := by decide +kernel
theorem dX6_dependents_53 : decode cX6_dependents 53 = .ok (.getfield 7, 3) := by decide +kernel
theorem dX6_dependents_56 : decode cX6_dependents 56 = .ok (.bipush 96, 2) := by decide +kernel
theorem dX6_dependents_58 : decode cX6_dependents 58 = .ok (.iload 5, 2) := by decide +kernel
theorem dX6_dependents_60 : decode cX6_dependents 60 = .ok (.iadd, 1) := by decide +kernel
theorem dX6_dependents_61 : decode cX6_dependents 61 = .ok (.iaload, 1) := by decide +kernel
theorem dX6_dependents_62 : decode cX6_dependents 62 = .ok (.istore 5, 2) := by decide +kernel
theorem dX6_dependents_64 : decode cX6_dependents 64 = .ok (.goto (-28), 3) := by decide +kernel
theorem dX6_dependents_67 : decode cX6_dependents 67 = .ok (.iload_n 3, 1) := by decide +kernel
theorem dX6_dependents_68 : decode cX6_dependents 68 = .ok (.iload 5, 2) := by decide +kernel
theorem dX6_dependents_70 : decode cX6_dependents 70 = .ok (.iload_n 1, 1) := by decide +kernel
theorem dX6_dependents_71 : decode cX6_dependents 71 = .ok (.if_icmp .ne 7, 3) := by decide +kernel
theorem dX6_dependents_74 : decode cX6_dependents 74 = .ok (.iconst 1, 1) := by decide +kernel
theorem dX6_dependents_75 : decode cX6_dependents 75 = .ok (.goto 4, 3) := by decide +kernel
theorem dX6_dependents_78 : decode cX6_dependents 78 = .ok (.iconst 0, 1) := by decide +kernel
theorem dX6_dependents_79 : decode cX6_dependents 79 = .ok (.invokestatic 232, 3) := by decide +kernel
theorem dX6_dependents_82 : decode cX6_dependents 82 = .ok (.iadd, 1) := by decide +kernel
theorem dX6_dependents_83 : decode cX6_dependents 83 = .ok (.istore_n 3, 1) := by decide +kernel
theorem dX6_dependents_84 : decode cX6_dependents 84 = .ok (.iinc 4 1, 3) := by decide +kernel
theorem dX6_dependents_87 : decode cX6_dependents 87 = .ok (.goto (-72), 3) := by decide +kernel
theorem dX6_dependents_90 : decode cX6_dependents 90 = .ok (.iload_n 3, 1) := by decide +kernel
theorem dX6_dependents_91 : decode cX6_dependents 91 = .ok (.ireturn, 1) := by decide +kernel
theorem dX6_owedNow_0 : decode cX6_owedNow 0 = .ok (.iconst 0, 1) := by decide +kernel
theorem dX6_owedNow_1 : decode cX6_owedNow 1 = .ok (.istore_n 1, 1) := by decide +kernel
theorem dX6_owedNow_2 : decode cX6_owedNow 2 = .ok (.iconst 0, 1) := by decide +kernel
theorem dX6_owedNow_3 : decode cX6_owedNow 3 = .ok (.istore_n 2, 1) := by decide +kernel
theorem dX6_owedNow_4 : decode cX6_owedNow 4 = .ok (.iload_n 2, 1) := by decide +kernel
theorem dX6_owedNow_5 : decode cX6_owedNow 5 = .ok (.aload_n 0, 1) := by decide +kernel
theorem dX6_owedNow_6 : decode cX6_owedNow 6 = .ok (.getfield 126, 3) := by decide +kernel
theorem dX6_owedNow_9 : decode cX6_owedNow 9 = .ok (.if_icmp .ge 20, 3) := by decide +kernel
theorem dX6_owedNow_12 : decode cX6_owedNow 12 = .ok (.iload_n 1, 1) := by decide +kernel
theorem dX6_owedNow_13 : decode cX6_owedNow 13 = .ok (.aload_n 0, 1) := by decide +kernel
theorem dX6_owedNow_14 : decode cX6_owedNow 14 = .ok (.iload_n 2, 1) := by decide +kernel
theorem dX6_owedNow_15 : decode cX6_owedNow 15 = .ok (.invokevirtual 217, 3) := by decide +kernel
theorem dX6_owedNow_18 : decode cX6_owedNow 18 = .ok (.invokestatic 232, 3) := by decide +kernel
theorem dX6_owedNow_21 : decode cX6_owedNow 21 = .ok (.iadd, 1) := by decide +kernel
theorem dX6_owedNow_22 : decode cX6_owedNow 22 = .ok (.istore_n 1, 1) := by decide +kernel
theorem dX6_owedNow_23 : decode cX6_owedNow 23 = .ok (.iinc 2 1, 3) := by decide +kernel
theorem dX6_owedNow_26 : decode cX6_owedNow 26 = .ok (.goto (-22), 3) := by decide +kernel
theorem dX6_owedNow_29 : decode cX6_owedNow 29 = .ok (.iload_n 1, 1) := by decide +kernel
theorem dX6_owedNow_30 : decode cX6_owedNow 30 = .ok (.ireturn, 1) := by decide +kernel
theorem dX6_owed_0 : decode cX6_owed 0 = .ok (.aload_n 0, 1) := by decide +kernel
theorem dX6_owed_1 : decode cX6_owed 1 = .ok (.invokevirtual 207, 3) := by decide +kernel
theorem dX6_owed_4 : decode cX6_owed 4 = .ok (.ifCond .eq 7, 3) := by decide +kernel
theorem dX6_owed_7 : decode cX6_owed 7 = .ok (.iconst 0, 1) := by decide +kernel
theorem dX6_owed_8 : decode cX6_owed 8 = .ok (.goto 7, 3) := by decide +kernel
theorem dX6_owed_11 : decode cX6_owed 11 = .ok (.aload_n 0, 1) := by decide +kernel
theorem dX6_owed_12 : decode cX6_owed 12 = .ok (.invokevirtual 236, 3) := by decide +kernel
theorem dX6_owed_15 : decode cX6_owed 15 = .ok (.ireturn, 1) := by decide +kernel
theorem dX6_goesOnWith_0 : decode cX6_goesOnWith 0 = .ok (.iload_n 1, 1) := by decide +kernel
theorem dX6_goesOnWith_1 : decode cX6_goesOnWith 1 = .ok (.ifCond .le 75, 3) := by decide +kernel
theorem dX6_goesOnWith_4 : decode cX6_goesOnWith 4 = .ok (.aload_n 0, 1) := by decide +kernel
theorem dX6_goesOnWith_5 : decode cX6_goesOnWith 5 = .ok (.iload_n 1, 1) := by decide +kernel
theorem dX6_goesOnWith_6 : decode cX6_goesOnWith 6 = .ok (.invokevirtual 217, 3) := by decide +kernel
theorem dX6_goesOnWith_9 : decode cX6_goesOnWith 9 = .ok (.ifCond .eq 67, 3) := by decide +kernel
theorem dX6_goesOnWith_12 : decode cX6_goesOnWith 12 = .ok (.aload_n 0, 1) := by decide +kernel
theorem dX6_goesOnWith_13 : decode cX6_goesOnWith 13 = .ok (.iload_n 1, 1) := by decide +kernel
theorem dX6_goesOnWith_14 : decode cX6_goesOnWith 14 = .ok (.iconst 1, 1) := by decide +kernel
theorem dX6_goesOnWith_15 : decode cX6_goesOnWith 15 = .ok (.isub, 1) := by decide +kernel
theorem dX6_goesOnWith_16 : decode cX6_goesOnWith 16 = .ok (.invokevirtual 217, 3) := by decide +kernel
theorem dX6_goesOnWith_19 : decode cX6_goesOnWith 19 = .ok (.ifCond .eq 57, 3) := by decide +kernel
theorem dX6_goesOnWith_22 : decode cX6_goesOnWith 22 = .ok (.aload_n 0, 1) := by decide +kernel
theorem dX6_goesOnWith_23 : decode cX6_goesOnWith 23 = .ok (.getfield 7, 3) := by decide +kernel
theorem dX6_goesOnWith_26 : decode cX6_goesOnWith 26 = .ok (.sipush 192, 3) := by decide +kernel
theorem dX6_goesOnWith_29 : decode cX6_goesOnWith 29 = .ok (.iload_n 1, 1) := by decide +kernel
theorem dX6_goesOnWith_30 : decode cX6_goesOnWith 30 = .ok (.iadd, 1) := by decide +kernel
theorem dX6_goesOnWith_31 : decode cX6_goesOnWith 31 = .ok (.iaload, 1) := by decide +kernel
theorem dX6_goesOnWith_32 : decode cX6_goesOnWith 32 = .ok (.aload_n 0, 1) := by decide +kernel
theorem dX6_goesOnWith_33 : decode cX6_goesOnWith 33 = .ok (.getfield 7, 3) := by decide +kernel
theorem dX6_goesOnWith_36 : decode cX6_goesOnWith 36 = .ok (.sipush 192, 3) := by decide +kernel
theorem dX6_goesOnWith_39 : decode cX6_goesOnWith 39 = .ok (.iload_n 1, 1) := by decide +kernel
theorem dX6_goesOnWith_40 : decode cX6_goesOnWith 40 = .ok (.iadd, 1) := by decide +kernel
theorem dX6_goesOnWith_41 : decode cX6_goesOnWith 41 = .ok (.iconst 1, 1) := by decide +kernel
theorem dX6_goesOnWith_42 : decode cX6_goesOnWith 42 = .ok (.isub, 1) := by decide +kernel
theorem dX6_goesOnWith_43 : decode cX6_goesOnWith 43 = .ok (.iaload, 1) := by decide +kernel
theorem dX6_goesOnWith_44 : decode cX6_goesOnWith 44 = .ok (.if_icmp .ne 32, 3) := by decide +kernel
theorem dX6_goesOnWith_47 : decode cX6_goesOnWith 47 = .ok (.aload_n 0, 1) := by decide +kernel
theorem dX6_goesOnWith_48 : decode cX6_goesOnWith 48 = .ok (.getfield 7, 3) := by decide +kernel
theorem dX6_goesOnWith_51 : decode cX6_goesOnWith 51 = .ok (.bipush 96, 2) := by decide +kernel
theorem dX6_goesOnWith_53 : decode cX6_goesOnWith 53 = .ok (.iload_n 1, 1) := by decide +kernel
theorem dX6_goesOnWith_54 : decode cX6_goesOnWith 54 = .ok (.iadd, 1) := by decide +kernel
theorem dX6_goesOnWith_55 : decode cX6_goesOnWith 55 = .ok (.iaload, 1) := by decide +kernel
theorem dX6_goesOnWith_56 : decode cX6_goesOnWith 56 = .ok (.aload_n 0, 1) := by decide +kernel
theorem dX6_goesOnWith_57 : decode cX6_goesOnWith 57 = .ok (.getfield 7, 3) := by decide +kernel
theorem dX6_goesOnWith_60 : decode cX6_goesOnWith 60 = .ok (.bipush 96, 2) := by decide +kernel
theorem dX6_goesOnWith_62 : decode cX6_goesOnWith 62 = .ok (.iload_n 1, 1) := by decide +kernel
theorem dX6_goesOnWith_63 : decode cX6_goesOnWith 63 = .ok (.iadd, 1) := by decide +kernel
theorem dX6_goesOnWith_64 : decode cX6_goesOnWith 64 = .ok (.iconst 1, 1) := by decide +kernel
theorem dX6_goesOnWith_65 : decode cX6_goesOnWith 65 = .ok (.isub, 1) := by decide +kernel
theorem dX6_goesOnWith_66 : decode cX6_goesOnWith 66 = .ok (.iaload, 1) := by decide +kernel
theorem dX6_goesOnWith_67 : decode cX6_goesOnWith 67 = .ok (.iconst 1, 1) := by decide +kernel
theorem dX6_goesOnWith_68 : decode cX6_goesOnWith 68 = .ok (.iadd, 1) := by decide +kernel
theorem dX6_goesOnWith_69 : decode cX6_goesOnWith 69 = .ok (.if_icmp .ne 7, 3) := by decide +kernel
theorem dX6_goesOnWith_72 : decode cX6_goesOnWith 72 = .ok (.iconst 1, 1) := by decide +kernel
theorem dX6_goesOnWith_73 : decode cX6_goesOnWith 73 = .ok (.goto 4, 3) := by decide +kernel
theorem dX6_goesOnWith_76 : decode cX6_goesOnWith 76 = .ok (.iconst 0, 1) := by decide +kernel
theorem dX6_goesOnWith_77 : decode cX6_goesOnWith 77 = .ok (.ireturn, 1) := by decide +kernel
theorem dX6_begins_0 : decode cX6_begins 0 = .ok (.aload_n 0, 1) := by decide +kernel
theorem dX6_begins_1 : decode cX6_begins 1 = .ok (.iload_n 1, 1) := by decide +kernel
theorem dX6_begins_2 : decode cX6_begins 2 = .ok (.invokevirtual 217, 3) := by decide +kernel
theorem dX6_begins_5 : decode cX6_begins 5 = .ok (.ifCond .eq 15, 3) := by decide +kernel
theorem dX6_begins_8 : decode cX6_begins 8 = .ok (.aload_n 0, 1) := by decide +kernel
theorem dX6_begins_9 : decode cX6_begins 9 = .ok (.iload_n 1, 1) := by decide +kernel
theorem dX6_begins_10 : decode cX6_begins 10 = .ok (.invokevirtual 239, 3) := by decide +kernel
theorem dX6_begins_13 : decode cX6_begins 13 = .ok (.ifCond .ne 7, 3) := by decide +kernel
theorem dX6_begins_16 : decode cX6_begins 16 = .ok (.iconst 1, 1) := by decide +kernel
theorem dX6_begins_17 : decode cX6_begins 17 = .ok (.goto 4, 3) := by decide +kernel
theorem dX6_begins_20 : decode cX6_begins 20 = .ok (.iconst 0, 1) := by decide +kernel
theorem dX6_begins_21 : decode cX6_begins 21 = .ok (.ireturn, 1) := by decide +kernel
theorem dX6_debtsNow_0 : decode cX6_debtsNow 0 = .ok (.iconst 0, 1) := by decide +kernel
theorem dX6_debtsNow_1 : decode cX6_debtsNow 1 = .ok (.istore_n 1, 1) := by decide +kernel
theorem dX6_debtsNow_2 : decode cX6_debtsNow 2 = .ok (.iconst 0, 1) := by decide +kernel
theorem dX6_debtsNow_3 : decode cX6_debtsNow 3 = .ok (.istore_n 2, 1) := by decide +kernel
theorem dX6_debtsNow_4 : decode cX6_debtsNow 4 = .ok (.iload_n 2, 1) := by decide +kernel
theorem dX6_debtsNow_5 : decode cX6_debtsNow 5 = .ok (.aload_n 0, 1) := by decide +kernel
theorem dX6_debtsNow_6 : decode cX6_debtsNow 6 = .ok (.getfield 126, 3) := by decide +kernel
theorem dX6_debtsNow_9 : decode cX6_debtsNow 9 = .ok (.if_icmp .ge 20, 3) := by decide +kernel
theorem dX6_debtsNow_12 : decode cX6_debtsNow 12 = .ok (.iload_n 1, 1) := by decide +kernel
theorem dX6_debtsNow_13 : decode cX6_debtsNow 13 = .ok (.aload_n 0, 1) := by decide +kernel
theorem dX6_debtsNow_14 : decode cX6_debtsNow 14 = .ok (.iload_n 2, 1) := by decide +kernel
theorem dX6_debtsNow_15 : decode cX6_debtsNow 15 = .ok (.invokevirtual 242, 3) := by decide +kernel
theorem dX6_debtsNow_18 : decode cX6_debtsNow 18 = .ok (.invokestatic 232, 3) := by decide +kernel
theorem dX6_debtsNow_21 : decode cX6_debtsNow 21 = .ok (.iadd, 1) := by decide +kernel
theorem dX6_debtsNow_22 : decode cX6_debtsNow 22 = .ok (.istore_n 1, 1) := by decide +kernel
theorem dX6_debtsNow_23 : decode cX6_debtsNow 23 = .ok (.iinc 2 1, 3) := by decide +kernel
theorem dX6_debtsNow_26 : decode cX6_debtsNow 26 = .ok (.goto (-22), 3) := by decide +kernel
theorem dX6_debtsNow_29 : decode cX6_debtsNow 29 = .ok (.iload_n 1, 1) := by decide +kernel
theorem dX6_debtsNow_30 : decode cX6_debtsNow 30 = .ok (.ireturn, 1) := by decide +kernel
theorem dX6_debtLong_0 : decode cX6_debtLong 0 = .ok (.iconst 1, 1) := by decide +kernel
theorem dX6_debtLong_1 : decode cX6_debtLong 1 = .ok (.istore_n 2, 1) := by decide +kernel
theorem dX6_debtLong_2 : decode cX6_debtLong 2 = .ok (.iload_n 1, 1) := by decide +kernel
theorem dX6_debtLong_3 : decode cX6_debtLong 3 = .ok (.iload_n 2, 1) := by decide +kernel
theorem dX6_debtLong_4 : decode cX6_debtLong 4 = .ok (.iadd, 1) := by decide +kernel
theorem dX6_debtLong_5 : decode cX6_debtLong 5 = .ok (.aload_n 0, 1) := by decide +kernel
theorem dX6_debtLong_6 : decode cX6_debtLong 6 = .ok (.getfield 126, 3) := by decide +kernel
theorem dX6_debtLong_9 : decode cX6_debtLong 9 = .ok (.if_icmp .ge 19, 3) := by decide +kernel
theorem dX6_debtLong_12 : decode cX6_debtLong 12 = .ok (.aload_n 0, 1) := by decide +kernel
theorem dX6_debtLong_13 : decode cX6_debtLong 13 = .ok (.iload_n 1, 1) := by decide +kernel
theorem dX6_debtLong_14 : decode cX6_debtLong 14 = .ok (.iload_n 2, 1) := by decide +kernel
theorem dX6_debtLong_15 : decode cX6_debtLong 15 = .ok (.iadd, 1) := by decide +kernel
theorem dX6_debtLong_16 : decode cX6_debtLong 16 = .ok (.invokevirtual 239, 3) := by decide +kernel
theorem dX6_debtLong_19 : decode cX6_debtLong 19 = .ok (.ifCond .eq 9, 3) := by decide +kernel
theorem dX6_debtLong_22 : decode cX6_debtLong 22 = .ok (.iinc 2 1, 3) := by decide +kernel
theorem dX6_debtLong_25 : decode cX6_debtLong 25 = .ok (.goto (-23), 3) := by decide +kernel
theorem dX6_debtLong_28 : decode cX6_debtLong 28 = .ok (.iload_n 2, 1) := by decide +kernel
theorem dX6_debtLong_29 : decode cX6_debtLong 29 = .ok (.ireturn, 1) := by decide +kernel
theorem dX6_debts_0 : decode cX6_debts 0 = .ok (.aload_n 0, 1) := by decide +kernel
theorem dX6_debts_1 : decode cX6_debts 1 = .ok (.invokevirtual 207, 3) := by decide +kernel
theorem dX6_debts_4 : decode cX6_debts 4 = .ok (.ifCond .eq 7, 3) := by decide +kernel
theorem dX6_debts_7 : decode cX6_debts 7 = .ok (.iconst 0, 1) := by decide +kernel
theorem dX6_debts_8 : decode cX6_debts 8 = .ok (.goto 7, 3) := by decide +kernel
theorem dX6_debts_11 : decode cX6_debts 11 = .ok (.aload_n 0, 1) := by decide +kernel
theorem dX6_debts_12 : decode cX6_debts 12 = .ok (.invokevirtual 245, 3) := by decide +kernel
theorem dX6_debts_15 : decode cX6_debts 15 = .ok (.ireturn, 1) := by decide +kernel
theorem dX6_debt_0 : decode cX6_debt 0 = .ok (.aload_n 0, 1) := by decide +kernel
theorem dX6_debt_1 : decode cX6_debt 1 = .ok (.invokevirtual 207, 3) := by decide +kernel
theorem dX6_debt_4 : decode cX6_debt 4 = .ok (.ifCond .ne 52, 3) := by decide +kernel
theorem dX6_debt_7 : decode cX6_debt 7 = .ok (.aload_n 0, 1) := by decide +kernel
theorem dX6_debt_8 : decode cX6_debt 8 = .ok (.iload_n 1, 1) := by decide +kernel
theorem dX6_debt_9 : decode cX6_debt 9 = .ok (.iconst 0, 1) := by decide +kernel
theorem dX6_debt_10 : decode cX6_debt 10 = .ok (.aload_n 0, 1) := by decide +kernel
theorem dX6_debt_11 : decode cX6_debt 11 = .ok (.invokevirtual 245, 3) := by decide +kernel
theorem dX6_debt_14 : decode cX6_debt 14 = .ok (.iconst 1, 1) := by decide +kernel
theorem dX6_debt_15 : decode cX6_debt 15 = .ok (.isub, 1) := by decide +kernel
theorem dX6_debt_16 : decode cX6_debt 16 = .ok (.invokestatic 98, 3) := by decide +kernel
theorem dX6_debt_19 : decode cX6_debt 19 = .ok (.ifCond .ne 7, 3) := by decide +kernel
theorem dX6_debt_22 : decode cX6_debt 22 = .ok (.iconst 1, 1) := by decide +kernel
theorem dX6_debt_23 : decode cX6_debt 23 = .ok (.goto 4, 3) := by decide +kernel
theorem dX6_debt_26 : decode cX6_debt 26 = .ok (.iconst 0, 1) := by decide +kernel
theorem dX6_debt_27 : decode cX6_debt 27 = .ok (.iconst 2, 1) := by decide +kernel
theorem dX6_debt_28 : decode cX6_debt 28 = .ok (.invokevirtual 40, 3) := by decide +kernel
theorem dX6_debt_31 : decode cX6_debt 31 = .ok (.ifCond .ne 25, 3) := by decide +kernel
theorem dX6_debt_34 : decode cX6_debt 34 = .ok (.aload_n 0, 1) := by decide +kernel
theorem dX6_debt_35 : decode cX6_debt 35 = .ok (.iload_n 2, 1) := by decide +kernel
theorem dX6_debt_36 : decode cX6_debt 36 = .ok (.iconst 0, 1) := by decide +kernel
theorem dX6_debt_37 : decode cX6_debt 37 = .ok (.iconst 3, 1) := by decide +kernel
theorem dX6_debt_38 : decode cX6_debt 38 = .ok (.invokestatic 98, 3) := by decide +kernel
theorem dX6_debt_41 : decode cX6_debt 41 = .ok (.ifCond .ne 7, 3) := by decide +kernel
theorem dX6_debt_44 : decode cX6_debt 44 = .ok (.iconst 1, 1) := by decide +kernel
theorem dX6_debt_45 : decode cX6_debt 45 = .ok (.goto 4, 3) := by decide +kernel
theorem dX6_debt_48 : decode cX6_debt 48 = .ok (.iconst 0, 1) := by decide +kernel
theorem dX6_debt_49 : decode cX6_debt 49 = .ok (.iconst 3, 1) := by decide +kernel
theorem dX6_debt_50 : decode cX6_debt 50 = .ok (.invokevirtual 40, 3) := by decide +kernel
theorem dX6_debt_53 : decode cX6_debt 53 = .ok (.ifCond .eq 5, 3) := by decide +kernel
theorem dX6_debt_56 : decode cX6_debt 56 = .ok (.iconst 0, 1) := by decide +kernel
theorem dX6_debt_57 : decode cX6_debt 57 = .ok (.ireturn, 1) := by decide +kernel
theorem dX6_debt_58 : decode cX6_debt 58 = .ok (.iconst 0, 1) := by decide +kernel
theorem dX6_debt_59 : decode cX6_debt 59 = .ok (.istore_n 3, 1) := by decide +kernel
theorem dX6_debt_60 : decode cX6_debt 60 = .ok (.iload_n 1, 1) := by decide +kernel
theorem dX6_debt_61 : decode cX6_debt 61 = .ok (.istore 4, 2) := by decide +kernel
theorem dX6_debt_63 : decode cX6_debt 63 = .ok (.iload 4, 2) := by decide +kernel
theorem dX6_debt_65 : decode cX6_debt 65 = .ok (.ifCond .gt 11, 3) := by decide +kernel
theorem dX6_debt_68 : decode cX6_debt 68 = .ok (.aload_n 0, 1) := by decide +kernel
theorem dX6_debt_69 : decode cX6_debt 69 = .ok (.iload_n 3, 1) := by decide +kernel
theorem dX6_debt_70 : decode cX6_debt 70 = .ok (.invokevirtual 242, 3) := by decide +kernel
theorem dX6_debt_73 : decode cX6_debt 73 = .ok (.ifCond .ne 22, 3) := by decide +kernel
theorem dX6_debt_76 : decode cX6_debt 76 = .ok (.iload 4, 2) := by decide +kernel
theorem dX6_debt_78 : decode cX6_debt 78 = .ok (.aload_n 0, 1) := by decide +kernel
theorem dX6_debt_79 : decode cX6_debt 79 = .ok (.iload_n 3, 1) := by decide +kernel
theorem dX6_debt_80 : decode cX6_debt 80 = .ok (.invokevirtual 242, 3) := by decide +kernel
theorem dX6_debt_83 : decode cX6_debt 83 = .ok (.invokestatic 232, 3) := by decide +kernel
theorem dX6_debt_86 : decode cX6_debt 86 = .ok (.isub, 1) := by decide +kernel
theorem dX6_debt_87 : decode cX6_debt 87 = .ok (.istore 4, 2) := by decide +kernel
theorem dX6_debt_89 : decode cX6_debt 89 = .ok (.iinc 3 1, 3) := by decide +kernel
theorem dX6_debt_92 : decode cX6_debt 92 = .ok (.goto (-29), 3) := by decide +kernel
theorem dX6_debt_95 : decode cX6_debt 95 = .ok (.iload_n 2, 1) := by decide +kernel
theorem dX6_debt_96 : decode cX6_debt 96 = .ok (.ifCond .ne 7, 3) := by decide +kernel
theorem dX6_debt_99 : decode cX6_debt 99 = .ok (.iload_n 3, 1) := by decide +kernel
theorem dX6_debt_100 : decode cX6_debt 100 = .ok (.goto 43, 3) := by decide +kernel
theorem dX6_debt_103 : decode cX6_debt 103 = .ok (.iload_n 2, 1) := by decide +kernel
theorem dX6_debt_104 : decode cX6_debt 104 = .ok (.iconst 1, 1) := by decide +kernel
theorem dX6_debt_105 : decode cX6_debt 105 = .ok (.if_icmp .ne 15, 3) := by decide +kernel
theorem dX6_debt_108 : decode cX6_debt 108 = .ok (.aload_n 0, 1) := by decide +kernel
theorem dX6_debt_109 : decode cX6_debt 109 = .ok (.getfield 7, 3) := by decide +kernel
theorem dX6_debt_112 : decode cX6_debt 112 = .ok (.bipush 96, 2) := by decide +kernel
theorem dX6_debt_114 : decode cX6_debt 114 = .ok (.iload_n 3, 1) := by decide +kernel
theorem dX6_debt_115 : decode cX6_debt 115 = .ok (.iadd, 1) := by decide +kernel
theorem dX6_debt_116 : decode cX6_debt 116 = .ok (.iaload, 1) := by decide +kernel
theorem dX6_debt_117 : decode cX6_debt 117 = .ok (.goto 26, 3) := by decide +kernel
theorem dX6_debt_120 : decode cX6_debt 120 = .ok (.iload_n 2, 1) := by decide +kernel
theorem dX6_debt_121 : decode cX6_debt 121 = .ok (.iconst 2, 1) := by decide +kernel
theorem dX6_debt_122 : decode cX6_debt 122 = .ok (.if_icmp .ne 11, 3) := by decide +kernel
theorem dX6_debt_125 : decode cX6_debt 125 = .ok (.aload_n 0, 1) := by decide +kernel
theorem dX6_debt_126 : decode cX6_debt 126 = .ok (.iload_n 3, 1) := by decide +kernel
theorem dX6_debt_127 : decode cX6_debt 127 = .ok (.invokevirtual 248, 3) := by decide +kernel
theorem dX6_debt_130 : decode cX6_debt 130 = .ok (.goto 13, 3) := by decide +kernel
theorem dX6_debt_133 : decode cX6_debt 133 = .ok (.aload_n 0, 1) := by decide +kernel
theorem dX6_debt_134 : decode cX6_debt 134 = .ok (.getfield 7, 3) := by decide +kernel
theorem dX6_debt_137 : decode cX6_debt 137 = .ok (.sipush 192, 3) := by decide +kernel
theorem dX6_debt_140 : decode cX6_debt 140 = .ok (.iload_n 3, 1) := by decide +kernel
theorem dX6_debt_141 : decode cX6_debt 141 = .ok (.iadd, 1) := by decide +kernel
theorem dX6_debt_142 : decode cX6_debt 142 = .ok (.iaload, 1) := by decide +kernel
theorem dX6_debt_143 : decode cX6_debt 143 = .ok (.ireturn, 1) := by decide +kernel
theorem dX6_owedIn_0 : decode cX6_owedIn 0 = .ok (.aload_n 0, 1) := by decide +kernel
theorem dX6_owedIn_1 : decode cX6_owedIn 1 = .ok (.iload_n 1, 1) := by decide +kernel
theorem dX6_owedIn_2 : decode cX6_owedIn 2 = .ok (.iload_n 2, 1) := by decide +kernel
theorem dX6_owedIn_3 : decode cX6_owedIn 3 = .ok (.invokevirtual 251, 3) := by decide +kernel
theorem dX6_owedIn_6 : decode cX6_owedIn 6 = .ok (.ifCond .eq 5, 3) := by decide +kernel
theorem dX6_owedIn_9 : decode cX6_owedIn 9 = .ok (.iconst 0, 1) := by decide +kernel
theorem dX6_owedIn_10 : decode cX6_owedIn 10 = .ok (.ireturn, 1) := by decide +kernel
theorem dX6_owedIn_11 : decode cX6_owedIn 11 = .ok (.iconst 0, 1) := by decide +kernel
theorem dX6_owedIn_12 : decode cX6_owedIn 12 = .ok (.istore_n 3, 1) := by decide +kernel
theorem dX6_owedIn_13 : decode cX6_owedIn 13 = .ok (.iload_n 1, 1) := by decide +kernel
theorem dX6_owedIn_14 : decode cX6_owedIn 14 = .ok (.istore 4, 2) := by decide +kernel
theorem dX6_owedIn_16 : decode cX6_owedIn 16 = .ok (.iload 4, 2) := by decide +kernel
theorem dX6_owedIn_18 : decode cX6_owedIn 18 = .ok (.iload_n 2, 1) := by decide +kernel
theorem dX6_owedIn_19 : decode cX6_owedIn 19 = .ok (.if_icmp .gt 21, 3) := by decide +kernel
theorem dX6_owedIn_22 : decode cX6_owedIn 22 = .ok (.iload_n 3, 1) := by decide +kernel
theorem dX6_owedIn_23 : decode cX6_owedIn 23 = .ok (.aload_n 0, 1) := by decide +kernel
theorem dX6_owedIn_24 : decode cX6_owedIn 24 = .ok (.iload 4, 2) := by decide +kernel
theorem dX6_owedIn_26 : decode cX6_owedIn 26 = .ok (.invokevirtual 217, 3) := by decide +kernel
theorem dX6_owedIn_29 : decode cX6_owedIn 29 = .ok (.invokestatic 232, 3) := by decide +kernel
theorem dX6_owedIn_32 : decode cX6_owedIn 32 = .ok (.iadd, 1) := by decide +kernel
theorem dX6_owedIn_33 : decode cX6_owedIn 33 = .ok (.istore_n 3, 1) := by decide +kernel
theorem dX6_owedIn_34 : decode cX6_owedIn 34 = .ok (.iinc 4 1, 3) := by decide +kernel
theorem dX6_owedIn_37 : decode cX6_owedIn 37 = .ok (.goto (-21), 3) := by decide +kernel
theorem dX6_owedIn_40 : decode cX6_owedIn 40 = .ok (.iload_n 3, 1) := by decide +kernel
theorem dX6_owedIn_41 : decode cX6_owedIn 41 = .ok (.ireturn, 1) := by decide +kernel
theorem dX6_distance_0 : decode cX6_distance 0 = .ok (.aload_n 0, 1) := by decide +kernel
theorem dX6_distance_1 : decode cX6_distance 1 = .ok (.iload_n 1, 1) := by decide +kernel
theorem dX6_distance_2 : decode cX6_distance 2 = .ok (.invokevirtual 223, 3) := by decide +kernel
theorem dX6_distance_5 : decode cX6_distance 5 = .ok (.ifCond .ne 24, 3) := by decide +kernel
theorem dX6_distance_8 : decode cX6_distance 8 = .ok (.aload_n 0, 1) := by decide +kernel
theorem dX6_distance_9 : decode cX6_distance 9 = .ok (.aload_n 0, 1) := by decide +kernel
theorem dX6_distance_10 : decode cX6_distance 10 = .ok (.iload_n 2, 1) := by decide +kernel
theorem dX6_distance_11 : decode cX6_distance 11 = .ok (.invokevirtual 211, 3) := by decide +kernel
theorem dX6_distance_14 : decode cX6_distance 14 = .ok (.ifCond .ne 7, 3) := by decide +kernel
theorem dX6_distance_17 : decode cX6_distance 17 = .ok (.iconst 1, 1) := by decide +kernel
theorem dX6_distance_18 : decode cX6_distance 18 = .ok (.goto 4, 3) := by decide +kernel
theorem dX6_distance_21 : decode cX6_distance 21 = .ok (.iconst 0, 1) := by decide +kernel
theorem dX6_distance_22 : decode cX6_distance 22 = .ok (.iconst 2, 1) := by decide +kernel
theorem dX6_distance_23 : decode cX6_distance 23 = .ok (.invokevirtual 40, 3) := by decide +kernel
theorem dX6_distance_26 : decode cX6_distance 26 = .ok (.ifCond .eq 5, 3) := by decide +kernel
theorem dX6_distance_29 : decode cX6_distance 29 = .ok (.iconst 0, 1) := by decide +kernel
theorem dX6_distance_30 : decode cX6_distance 30 = .ok (.ireturn, 1) := by decide +kernel
theorem dX6_distance_31 : decode cX6_distance 31 = .ok (.iconst 0, 1) := by decide +kernel
theorem dX6_distance_32 : decode cX6_distance 32 = .ok (.istore_n 3, 1) := by decide +kernel
theorem dX6_distance_33 : decode cX6_distance 33 = .ok (.iload_n 1, 1) := by decide +kernel
theorem dX6_distance_34 : decode cX6_distance 34 = .ok (.istore 4, 2) := by decide +kernel
theorem dX6_distance_36 : decode cX6_distance 36 = .ok (.iload 4, 2) := by decide +kernel
theorem dX6_distance_38 : decode cX6_distance 38 = .ok (.iload_n 2, 1) := by decide +kernel
theorem dX6_distance_39 : decode cX6_distance 39 = .ok (.if_icmp .eq 27, 3) := by decide +kernel
theorem dX6_distance_42 : decode cX6_distance 42 = .ok (.iload 4, 2) := by decide +kernel
theorem dX6_distance_44 : decode cX6_distance 44 = .ok (.iconst (-1), 1) := by decide +kernel
theorem dX6_distance_45 : decode cX6_distance 45 = .ok (.if_icmp .eq 21, 3) := by decide +kernel
theorem dX6_distance_48 : decode cX6_distance 48 = .ok (.aload_n 0, 1) := by decide +kernel
theorem dX6_distance_49 : decode cX6_distance 49 = .ok (.getfield 7, 3) := by decide +kernel
theorem dX6_distance_52 : decode cX6_distance 52 = .ok (.bipush 96, 2) := by decide +kernel
theorem dX6_distance_54 : decode cX6_distance 54 = .ok (.iload 4, 2) := by decide +kernel
theorem dX6_distance_56 : decode cX6_distance 56 = .ok (.iadd, 1) := by decide +kernel
theorem dX6_distance_57 : decode cX6_distance 57 = .ok (.iaload, 1) := by decide +kernel
theorem dX6_distance_58 : decode cX6_distance 58 = .ok (.istore 4, 2) := by decide +kernel
theorem dX6_distance_60 : decode cX6_distance 60 = .ok (.iinc 3 1, 3) := by decide +kernel
theorem dX6_distance_63 : decode cX6_distance 63 = .ok (.goto (-27), 3) := by decide +kernel
theorem dX6_distance_66 : decode cX6_distance 66 = .ok (.iload 4, 2) := by decide +kernel
theorem dX6_distance_68 : decode cX6_distance 68 = .ok (.iconst (-1), 1) := by decide +kernel
theorem dX6_distance_69 : decode cX6_distance 69 = .ok (.if_icmp .ne 7, 3) := by decide +kernel
theorem dX6_distance_72 : decode cX6_distance 72 = .ok (.iconst (-1), 1) := by decide +kernel
theorem dX6_distance_73 : decode cX6_distance 73 = .ok (.goto 4, 3) := by decide +kernel
theorem dX6_distance_76 : decode cX6_distance 76 = .ok (.iload_n 3, 1) := by decide +kernel
theorem dX6_distance_77 : decode cX6_distance 77 = .ok (.ireturn, 1) := by decide +kernel
theorem dX6_oldest_0 : decode cX6_oldest 0 = .ok (.aload_n 0, 1) := by decide +kernel
theorem dX6_oldest_1 : decode cX6_oldest 1 = .ok (.invokevirtual 207, 3) := by decide +kernel
theorem dX6_oldest_4 : decode cX6_oldest 4 = .ok (.ifCond .eq 5, 3) := by decide +kernel
theorem dX6_oldest_7 : decode cX6_oldest 7 = .ok (.iconst 0, 1) := by decide +kernel
theorem dX6_oldest_8 : decode cX6_oldest 8 = .ok (.ireturn, 1) := by decide +kernel
theorem dX6_oldest_9 : decode cX6_oldest 9 = .ok (.iconst (-1), 1) := by decide +kernel
theorem dX6_oldest_10 : decode cX6_oldest 10 = .ok (.istore_n 1, 1) := by decide +kernel
theorem dX6_oldest_11 : decode cX6_oldest 11 = .ok (.iconst 0, 1) := by decide +kernel
theorem dX6_oldest_12 : decode cX6_oldest 12 = .ok (.istore_n 2, 1) := by decide +kernel
theorem dX6_oldest_13 : decode cX6_oldest 13 = .ok (.iload_n 2, 1) := by decide +kernel
theorem dX6_oldest_14 : decode cX6_oldest 14 = .ok (.aload_n 0, 1) := by decide +kernel
theorem dX6_oldest_15 : decode cX6_oldest 15 = .ok (.getfield 126, 3) := by decide +kernel
theorem dX6_oldest_18 : decode cX6_oldest 18 = .ok (.if_icmp .ge 51, 3) := by decide +kernel
theorem dX6_oldest_21 : decode cX6_oldest 21 = .ok (.aload_n 0, 1) := by decide +kernel
theorem dX6_oldest_22 : decode cX6_oldest 22 = .ok (.iload_n 2, 1) := by decide +kernel
theorem dX6_oldest_23 : decode cX6_oldest 23 = .ok (.invokevirtual 217, 3) := by decide +kernel
theorem dX6_oldest_26 : decode cX6_oldest 26 = .ok (.ifCond .eq 35, 3) := by decide +kernel
theorem dX6_oldest_29 : decode cX6_oldest 29 = .ok (.iload_n 1, 1) := by decide +kernel
theorem dX6_oldest_30 : decode cX6_oldest 30 = .ok (.iconst (-1), 1) := by decide +kernel
theorem dX6_oldest_31 : decode cX6_oldest 31 = .ok (.if_icmp .eq 17, 3) := by decide +kernel
theorem dX6_oldest_34 : decode cX6_oldest 34 = .ok (.aload_n 0, 1) := by decide +kernel
theorem dX6_oldest_35 : decode cX6_oldest 35 = .ok (.getfield 7, 3) := by decide +kernel
theorem dX6_oldest_38 : decode cX6_oldest 38 = .ok (.sipush 192, 3) := by decide +kernel
theorem dX6_oldest_41 : decode cX6_oldest 41 = .ok (.iload_n 2, 1) := by decide +kernel
theorem dX6_oldest_42 : decode cX6_oldest 42 = .ok (.iadd, 1) := by decide +kernel
theorem dX6_oldest_43 : decode cX6_oldest 43 = .ok (.iaload, 1) := by decide +kernel
theorem dX6_oldest_44 : decode cX6_oldest 44 = .ok (.iload_n 1, 1) := by decide +kernel
theorem dX6_oldest_45 : decode cX6_oldest 45 = .ok (.if_icmp .ge 16, 3) := by decide +kernel
theorem dX6_oldest_48 : decode cX6_oldest 48 = .ok (.aload_n 0, 1) := by decide +kernel
theorem dX6_oldest_49 : decode cX6_oldest 49 = .ok (.getfield 7, 3) := by decide +kernel
theorem dX6_oldest_52 : decode cX6_oldest 52 = .ok (.sipush 192, 3) := by decide +kernel
theorem dX6_oldest_55 : decode cX6_oldest 55 = .ok (.iload_n 2, 1) := by decide +kernel
theorem dX6_oldest_56 : decode cX6_oldest 56 = .ok (.iadd, 1) := by decide +kernel
theorem dX6_oldest_57 : decode cX6_oldest 57 = .ok (.iaload, 1) := by decide +kernel
theorem dX6_oldest_58 : decode cX6_oldest 58 = .ok (.goto 4, 3) := by decide +kernel
theorem dX6_oldest_61 : decode cX6_oldest 61 = .ok (.iload_n 1, 1) := by decide +kernel
theorem dX6_oldest_62 : decode cX6_oldest 62 = .ok (.istore_n 1, 1) := by decide +kernel
theorem dX6_oldest_63 : decode cX6_oldest 63 = .ok (.iinc 2 1, 3) := by decide +kernel
theorem dX6_oldest_66 : decode cX6_oldest 66 = .ok (.goto (-53), 3) := by decide +kernel
theorem dX6_oldest_69 : decode cX6_oldest 69 = .ok (.iload_n 1, 1) := by decide +kernel
theorem dX6_oldest_70 : decode cX6_oldest 70 = .ok (.ireturn, 1) := by decide +kernel
theorem dX6_firstOwed_0 : decode cX6_firstOwed 0 = .ok (.aload_n 0, 1) := by decide +kernel
theorem dX6_firstOwed_1 : decode cX6_firstOwed 1 = .ok (.iload_n 1, 1) := by decide +kernel
theorem dX6_firstOwed_2 : decode cX6_firstOwed 2 = .ok (.invokevirtual 223, 3) := by decide +kernel
theorem dX6_firstOwed_5 : decode cX6_firstOwed 5 = .ok (.ifCond .eq 5, 3) := by decide +kernel
theorem dX6_firstOwed_8 : decode cX6_firstOwed 8 = .ok (.iconst 0, 1) := by decide +kernel
theorem dX6_firstOwed_9 : decode cX6_firstOwed 9 = .ok (.ireturn, 1) := by decide +kernel
theorem dX6_firstOwed_10 : decode cX6_firstOwed 10 = .ok (.iload_n 1, 1) := by decide +kernel
theorem dX6_firstOwed_11 : decode cX6_firstOwed 11 = .ok (.istore_n 2, 1) := by decide +kernel
theorem dX6_firstOwed_12 : decode cX6_firstOwed 12 = .ok (.iload_n 2, 1) := by decide +kernel
theorem dX6_firstOwed_13 : decode cX6_firstOwed 13 = .ok (.aload_n 0, 1) := by decide +kernel
theorem dX6_firstOwed_14 : decode cX6_firstOwed 14 = .ok (.getfield 126, 3) := by decide +kernel
theorem dX6_firstOwed_17 : decode cX6_firstOwed 17 = .ok (.if_icmp .ge 17, 3) := by decide +kernel
theorem dX6_firstOwed_20 : decode cX6_firstOwed 20 = .ok (.aload_n 0, 1) := by decide +kernel
theorem dX6_firstOwed_21 : decode cX6_firstOwed 21 = .ok (.iload_n 2, 1) := by decide +kernel
theorem dX6_firstOwed_22 : decode cX6_firstOwed 22 = .ok (.invokevirtual 217, 3) := by decide +kernel
theorem dX6_firstOwed_25 : decode cX6_firstOwed 25 = .ok (.ifCond .ne 9, 3) := by decide +kernel
theorem dX6_firstOwed_28 : decode cX6_firstOwed 28 = .ok (.iinc 2 1, 3) := by decide +kernel
theorem dX6_firstOwed_31 : decode cX6_firstOwed 31 = .ok (.goto (-19), 3) := by decide +kernel
theorem dX6_firstOwed_34 : decode cX6_firstOwed 34 = .ok (.iload_n 2, 1) := by decide +kernel
theorem dX6_firstOwed_35 : decode cX6_firstOwed 35 = .ok (.aload_n 0, 1) := by decide +kernel
theorem dX6_firstOwed_36 : decode cX6_firstOwed 36 = .ok (.getfield 126, 3) := by decide +kernel
theorem dX6_firstOwed_39 : decode cX6_firstOwed 39 = .ok (.if_icmp .ne 7, 3) := by decide +kernel
theorem dX6_firstOwed_42 : decode cX6_firstOwed 42 = .ok (.iconst (-1), 1) := by decide +kernel
theorem dX6_firstOwed_43 : decode cX6_firstOwed 43 = .ok (.goto 4, 3) := by decide +kernel
theorem dX6_firstOwed_46 : decode cX6_firstOwed 46 = .ok (.iload_n 2, 1) := by decide +kernel
theorem dX6_firstOwed_47 : decode cX6_firstOwed 47 = .ok (.ireturn, 1) := by decide +kernel
theorem dX6_deepestNow_0 : decode cX6_deepestNow 0 = .ok (.iconst (-1), 1) := by decide +kernel
theorem dX6_deepestNow_1 : decode cX6_deepestNow 1 = .ok (.istore_n 1, 1) := by decide +kernel
theorem dX6_deepestNow_2 : decode cX6_deepestNow 2 = .ok (.iconst 0, 1) := by decide +kernel
theorem dX6_deepestNow_3 : decode cX6_deepestNow 3 = .ok (.istore_n 2, 1) := by decide +kernel
theorem dX6_deepestNow_4 : decode cX6_deepestNow 4 = .ok (.iload_n 2, 1) := by decide +kernel
theorem dX6_deepestNow_5 : decode cX6_deepestNow 5 = .ok (.aload_n 0, 1) := by decide +kernel
theorem dX6_deepestNow_6 : decode cX6_deepestNow 6 = .ok (.getfield 126, 3) := by decide +kernel
theorem dX6_deepestNow_9 : decode cX6_deepestNow 9 = .ok (.if_icmp .ge 41, 3) := by decide +kernel
theorem dX6_deepestNow_12 : decode cX6_deepestNow 12 = .ok (.aload_n 0, 1) := by decide +kernel
theorem dX6_deepestNow_13 : decode cX6_deepestNow 13 = .ok (.iload_n 2, 1) := by decide +kernel
theorem dX6_deepestNow_14 : decode cX6_deepestNow 14 = .ok (.invokevirtual 217, 3) := by decide +kernel
theorem dX6_deepestNow_17 : decode cX6_deepestNow 17 = .ok (.ifCond .eq 25, 3) := by decide +kernel
theorem dX6_deepestNow_20 : decode cX6_deepestNow 20 = .ok (.iload_n 1, 1) := by decide +kernel
theorem dX6_deepestNow_21 : decode cX6_deepestNow 21 = .ok (.iconst (-1), 1) := by decide +kernel
theorem dX6_deepestNow_22 : decode cX6_deepestNow 22 = .ok (.if_icmp .eq 16, 3) := by decide +kernel
theorem dX6_deepestNow_25 : decode cX6_deepestNow 25 = .ok (.aload_n 0, 1) := by decide +kernel
theorem dX6_deepestNow_26 : decode cX6_deepestNow 26 = .ok (.iload_n 2, 1) := by decide +kernel
theorem dX6_deepestNow_27 : decode cX6_deepestNow 27 = .ok (.invokevirtual 229, 3) := by decide +kernel
theorem dX6_deepestNow_30 : decode cX6_deepestNow 30 = .ok (.aload_n 0, 1) := by decide +kernel
theorem dX6_deepestNow_31 : decode cX6_deepestNow 31 = .ok (.iload_n 1, 1) := by decide +kernel
theorem dX6_deepestNow_32 : decode cX6_deepestNow 32 = .ok (.invokevirtual 229, 3) := by decide +kernel
theorem dX6_deepestNow_35 : decode cX6_deepestNow 35 = .ok (.if_icmp .le 7, 3) := by decide +kernel
theorem dX6_deepestNow_38 : decode cX6_deepestNow 38 = .ok (.iload_n 2, 1) := by decide +kernel
theorem dX6_deepestNow_39 : decode cX6_deepestNow 39 = .ok (.goto 4, 3) := by decide +kernel
theorem dX6_deepestNow_42 : decode cX6_deepestNow 42 = .ok (.iload_n 1, 1) := by decide +kernel
theorem dX6_deepestNow_43 : decode cX6_deepestNow 43 = .ok (.istore_n 1, 1) := by decide +kernel
theorem dX6_deepestNow_44 : decode cX6_deepestNow 44 = .ok (.iinc 2 1, 3) := by decide +kernel
theorem dX6_deepestNow_47 : decode cX6_deepestNow 47 = .ok (.goto (-43), 3) := by decide +kernel
theorem dX6_deepestNow_50 : decode cX6_deepestNow 50 = .ok (.iload_n 1, 1) := by decide +kernel
theorem dX6_deepestNow_51 : decode cX6_deepestNow 51 = .ok (.ireturn, 1) := by decide +kernel
theorem dX6_most_0 : decode cX6_most 0 = .ok (.aload_n 0, 1) := by decide +kernel
theorem dX6_most_1 : decode cX6_most 1 = .ok (.invokevirtual 207, 3) := by decide +kernel
theorem dX6_most_4 : decode cX6_most 4 = .ok (.ifCond .eq 5, 3) := by decide +kernel
theorem dX6_most_7 : decode cX6_most 7 = .ok (.iconst 0, 1) := by decide +kernel
theorem dX6_most_8 : decode cX6_most 8 = .ok (.ireturn, 1) := by decide +kernel
theorem dX6_most_9 : decode cX6_most 9 = .ok (.aload_n 0, 1) := by decide +kernel
theorem dX6_most_10 : decode cX6_most 10 = .ok (.invokevirtual 254, 3) := by decide +kernel
theorem dX6_most_13 : decode cX6_most 13 = .ok (.istore_n 1, 1) := by decide +kernel
theorem dX6_most_14 : decode cX6_most 14 = .ok (.iload_n 1, 1) := by decide +kernel
theorem dX6_most_15 : decode cX6_most 15 = .ok (.iconst (-1), 1) := by decide +kernel
theorem dX6_most_16 : decode cX6_most 16 = .ok (.if_icmp .ne 7, 3) := by decide +kernel
theorem dX6_most_19 : decode cX6_most 19 = .ok (.iconst 0, 1) := by decide +kernel
theorem dX6_most_20 : decode cX6_most 20 = .ok (.goto 8, 3) := by decide +kernel
theorem dX6_most_23 : decode cX6_most 23 = .ok (.aload_n 0, 1) := by decide +kernel
theorem dX6_most_24 : decode cX6_most 24 = .ok (.iload_n 1, 1) := by decide +kernel
theorem dX6_most_25 : decode cX6_most 25 = .ok (.invokevirtual 229, 3) := by decide +kernel
theorem dX6_most_28 : decode cX6_most 28 = .ok (.ireturn, 1) := by decide +kernel
theorem dX6_deepest_0 : decode cX6_deepest 0 = .ok (.aload_n 0, 1) := by decide +kernel
theorem dX6_deepest_1 : decode cX6_deepest 1 = .ok (.invokevirtual 207, 3) := by decide +kernel
theorem dX6_deepest_4 : decode cX6_deepest 4 = .ok (.ifCond .eq 7, 3) := by decide +kernel
theorem dX6_deepest_7 : decode cX6_deepest 7 = .ok (.iconst 0, 1) := by decide +kernel
theorem dX6_deepest_8 : decode cX6_deepest 8 = .ok (.goto 7, 3) := by decide +kernel
theorem dX6_deepest_11 : decode cX6_deepest 11 = .ok (.aload_n 0, 1) := by decide +kernel
theorem dX6_deepest_12 : decode cX6_deepest 12 = .ok (.invokevirtual 254, 3) := by decide +kernel
theorem dX6_deepest_15 : decode cX6_deepest 15 = .ok (.ireturn, 1) := by decide +kernel
theorem dX6_creditors_0 : decode cX6_creditors 0 = .ok (.aload_n 0, 1) := by decide +kernel
theorem dX6_creditors_1 : decode cX6_creditors 1 = .ok (.invokevirtual 207, 3) := by decide +kernel
theorem dX6_creditors_4 : decode cX6_creditors 4 = .ok (.ifCond .eq 5, 3) := by decide +kernel
theorem dX6_creditors_7 : decode cX6_creditors 7 = .ok (.iconst 0, 1) := by decide +kernel
theorem dX6_creditors_8 : decode cX6_creditors 8 = .ok (.ireturn, 1) := by decide +kernel
theorem dX6_creditors_9 : decode cX6_creditors 9 = .ok (.iconst 0, 1) := by decide +kernel
theorem dX6_creditors_10 : decode cX6_creditors 10 = .ok (.istore_n 1, 1) := by decide +kernel
theorem dX6_creditors_11 : decode cX6_creditors 11 = .ok (.iconst 0, 1) := by decide +kernel
theorem dX6_creditors_12 : decode cX6_creditors 12 = .ok (.istore_n 2, 1) := by decide +kernel
theorem dX6_creditors_13 : decode cX6_creditors 13 = .ok (.iload_n 2, 1) := by decide +kernel
theorem dX6_creditors_14 : decode cX6_creditors 14 = .ok (.aload_n 0, 1) := by decide +kernel
theorem dX6_creditors_15 : decode cX6_creditors 15 = .ok (.getfield 126, 3) := by decide +kernel
theorem dX6_creditors_18 : decode cX6_creditors 18 = .ok (.if_icmp .ge 60, 3) := by decide +kernel
theorem dX6_creditors_21 : decode cX6_creditors 21 = .ok (.iconst 0, 1) := by decide +kernel
theorem dX6_creditors_22 : decode cX6_creditors 22 = .ok (.istore_n 3, 1) := by decide +kernel
theorem dX6_creditors_23 : decode cX6_creditors 23 = .ok (.iconst 0, 1) := by decide +kernel
theorem dX6_creditors_24 : decode cX6_creditors 24 = .ok (.istore 4, 2) := by decide +kernel
theorem dX6_creditors_26 : decode cX6_creditors 26 = .ok (.iload 4, 2) := by decide +kernel
theorem dX6_creditors_28 : decode cX6_creditors 28 = .ok (.aload_n 0, 1) := by decide +kernel
theorem dX6_creditors_29 : decode cX6_creditors 29 = .ok (.getfield 126, 3) := by decide +kernel
theorem dX6_creditors_32 : decode cX6_creditors 32 = .ok (.if_icmp .ge 33, 3) := by decide +kernel
theorem dX6_creditors_35 : decode cX6_creditors 35 = .ok (.iload_n 3, 1) := by decide +kernel
theorem dX6_creditors_36 : decode cX6_creditors 36 = .ok (.ifCond .ne 17, 3) := by decide +kernel
theorem dX6_creditors_39 : decode cX6_creditors 39 = .ok (.aload_n 0, 1) := by decide +kernel
theorem dX6_creditors_40 : decode cX6_creditors 40 = .ok (.getfield 7, 3) := by decide +kernel
theorem dX6_creditors_43 : decode cX6_creditors 43 = .ok (.bipush 96, 2) := by decide +kernel
theorem dX6_creditors_45 : decode cX6_creditors 45 = .ok (.iload 4, 2) := by decide +kernel
theorem dX6_creditors_47 : decode cX6_creditors 47 = .ok (.iadd, 1) := by decide +kernel
theorem dX6_creditors_48 : decode cX6_creditors 48 = .ok (.iaload, 1) := by decide +kernel
theorem dX6_creditors_49 : decode cX6_creditors 49 = .ok (.iload_n 2, 1) := by decide +kernel
theorem dX6_creditors_50 : decode cX6_creditors 50 = .ok (.if_icmp .ne 7, 3) := by decide +kernel
theorem dX6_creditors_53 : decode cX6_creditors 53 = .ok (.iconst 1, 1) := by decide +kernel
theorem dX6_creditors_54 : decode cX6_creditors 54 = .ok (.goto 4, 3) := by decide +kernel
theorem dX6_creditors_57 : decode cX6_creditors 57 = .ok (.iconst 0, 1) := by decide +kernel
theorem dX6_creditors_58 : decode cX6_creditors 58 = .ok (.istore_n 3, 1) := by decide +kernel
theorem dX6_creditors_59 : decode cX6_creditors 59 = .ok (.iinc 4 1, 3) := by decide +kernel
theorem dX6_creditors_62 : decode cX6_creditors 62 = .ok (.goto (-36), 3) := by decide +kernel
theorem dX6_creditors_65 : decode cX6_creditors 65 = .ok (.iload_n 1, 1) := by decide +kernel
theorem dX6_creditors_66 : decode cX6_creditors 66 = .ok (.iload_n 3, 1) := by decide +kernel
theorem dX6_creditors_67 : decode cX6_creditors 67 = .ok (.invokestatic 232, 3) := by decide +kernel
theorem dX6_creditors_70 : decode cX6_creditors 70 = .ok (.iadd, 1) := by decide +kernel
theorem dX6_creditors_71 : decode cX6_creditors 71 = .ok (.istore_n 1, 1) := by decide +kernel
theorem dX6_creditors_72 : decode cX6_creditors 72 = .ok (.iinc 2 1, 3) := by decide +kernel
theorem dX6_creditors_75 : decode cX6_creditors 75 = .ok (.goto (-62), 3) := by decide +kernel
theorem dX6_creditors_78 : decode cX6_creditors 78 = .ok (.iload_n 1, 1) := by decide +kernel
theorem dX6_creditors_79 : decode cX6_creditors 79 = .ok (.ireturn, 1) := by decide +kernel
theorem dX6_isAhead_0 : decode cX6_isAhead 0 = .ok (.aload_n 0, 1) := by decide +kernel
theorem dX6_isAhead_1 : decode cX6_isAhead 1 = .ok (.getfield 7, 3) := by decide +kernel
theorem dX6_isAhead_4 : decode cX6_isAhead 4 = .ok (.sipush 386, 3) := by decide +kernel
theorem dX6_isAhead_7 : decode cX6_isAhead 7 = .ok (.iaload, 1) := by decide +kernel
theorem dX6_isAhead_8 : decode cX6_isAhead 8 = .ok (.istore_n 3, 1) := by decide +kernel
theorem dX6_isAhead_9 : decode cX6_isAhead 9 = .ok (.iload_n 3, 1) := by decide +kernel
theorem dX6_isAhead_10 : decode cX6_isAhead 10 = .ok (.ifCond .ne 32, 3) := by decide +kernel
theorem dX6_isAhead_13 : decode cX6_isAhead 13 = .ok (.aload_n 0, 1) := by decide +kernel
theorem dX6_isAhead_14 : decode cX6_isAhead 14 = .ok (.getfield 7, 3) := by decide +kernel
theorem dX6_isAhead_17 : decode cX6_isAhead 17 = .ok (.sipush 192, 3) := by decide +kernel
theorem dX6_isAhead_20 : decode cX6_isAhead 20 = .ok (.iload_n 1, 1) := by decide +kernel
theorem dX6_isAhead_21 : decode cX6_isAhead 21 = .ok (.iadd, 1) := by decide +kernel
theorem dX6_isAhead_22 : decode cX6_isAhead 22 = .ok (.iaload, 1) := by decide +kernel
theorem dX6_isAhead_23 : decode cX6_isAhead 23 = .ok (.aload_n 0, 1) := by decide +kernel
theorem dX6_isAhead_24 : decode cX6_isAhead 24 = .ok (.getfield 7, 3) := by decide +kernel
theorem dX6_isAhead_27 : decode cX6_isAhead 27 = .ok (.sipush 192, 3) := by decide +kernel
theorem dX6_isAhead_30 : decode cX6_isAhead 30 = .ok (.iload_n 2, 1) := by decide +kernel
theorem dX6_isAhead_31 : decode cX6_isAhead 31 = .ok (.iadd, 1) := by decide +kernel
theorem dX6_isAhead_32 : decode cX6_isAhead 32 = .ok (.iaload, 1) := by decide +kernel
theorem dX6_isAhead_33 : decode cX6_isAhead 33 = .ok (.if_icmp .ge 7, 3) := by decide +kernel
theorem dX6_isAhead_36 : decode cX6_isAhead 36 = .ok (.iconst 1, 1) := by decide +kernel
theorem dX6_isAhead_37 : decode cX6_isAhead 37 = .ok (.goto 4, 3) := by decide +kernel
theorem dX6_isAhead_40 : decode cX6_isAhead 40 = .ok (.iconst 0, 1) := by decide +kernel
theorem dX6_isAhead_41 : decode cX6_isAhead 41 = .ok (.ireturn, 1) := by decide +kernel
theorem dX6_isAhead_42 : decode cX6_isAhead 42 = .ok (.iload_n 3, 1) := by decide +kernel
theorem dX6_isAhead_43 : decode cX6_isAhead 43 = .ok (.iconst 2, 1) := by decide +kernel
theorem dX6_isAhead_44 : decode cX6_isAhead 44 = .ok (.if_icmp .ne 16, 3) := by decide +kernel
theorem dX6_isAhead_47 : decode cX6_isAhead 47 = .ok (.aload_n 0, 1) := by decide +kernel
theorem dX6_isAhead_48 : decode cX6_isAhead 48 = .ok (.iload_n 1, 1) := by decide +kernel
theorem dX6_isAhead_49 : decode cX6_isAhead 49 = .ok (.invokevirtual 229, 3) := by decide +kernel
theorem dX6_isAhead_52 : decode cX6_isAhead 52 = .ok (.aload_n 0, 1) := by decide +kernel
theorem dX6_isAhead_53 : decode cX6_isAhead 53 = .ok (.iload_n 2, 1) := by decide +kernel
theorem dX6_isAhead_54 : decode cX6_isAhead 54 = .ok (.invokevirtual 229, 3) := by decide +kernel
theorem dX6_isAhead_57 : decode cX6_isAhead 57 = .ok (.if_icmp .gt 21, 3) := by decide +kernel
theorem dX6_isAhead_60 : decode cX6_isAhead 60 = .ok (.iload_n 3, 1) := by decide +kernel
theorem dX6_isAhead_61 : decode cX6_isAhead 61 = .ok (.iconst 3, 1) := by decide +kernel
theorem dX6_isAhead_62 : decode cX6_isAhead 62 = .ok (.if_icmp .ne 20, 3) := by decide +kernel
theorem dX6_isAhead_65 : decode cX6_isAhead 65 = .ok (.aload_n 0, 1) := by decide +kernel
theorem dX6_isAhead_66 : decode cX6_isAhead 66 = .ok (.iload_n 1, 1) := by decide +kernel
theorem dX6_isAhead_67 : decode cX6_isAhead 67 = .ok (.invokevirtual 229, 3) := by decide +kernel
theorem dX6_isAhead_70 : decode cX6_isAhead 70 = .ok (.aload_n 0, 1) := by decide +kernel
theorem dX6_isAhead_71 : decode cX6_isAhead 71 = .ok (.iload_n 2, 1) := by decide +kernel
theorem dX6_isAhead_72 : decode cX6_isAhead 72 = .ok (.invokevirtual 229, 3) := by decide +kernel
theorem dX6_isAhead_75 : decode cX6_isAhead 75 = .ok (.if_icmp .ge 7, 3) := by decide +kernel
theorem dX6_isAhead_78 : decode cX6_isAhead 78 = .ok (.iconst 1, 1) := by decide +kernel
theorem dX6_isAhead_79 : decode cX6_isAhead 79 = .ok (.goto 4, 3) := by decide +kernel
theorem dX6_isAhead_82 : decode cX6_isAhead 82 = .ok (.iconst 0, 1) := by decide +kernel
theorem dX6_isAhead_83 : decode cX6_isAhead 83 = .ok (.ireturn, 1) := by decide +kernel
theorem dX6_nextNow_0 : decode cX6_nextNow 0 = .ok (.iconst (-1), 1) := by decide +kernel
theorem dX6_nextNow_1 : decode cX6_nextNow 1 = .ok (.istore_n 1, 1) := by decide +kernel
theorem dX6_nextNow_2 : decode cX6_nextNow 2 = .ok (.iconst 0, 1) := by decide +kernel
theorem dX6_nextNow_3 : decode cX6_nextNow 3 = .ok (.istore_n 2, 1) := by decide +kernel
theorem dX6_nextNow_4 : decode cX6_nextNow 4 = .ok (.iload_n 2, 1) := by decide +kernel
theorem dX6_nextNow_5 : decode cX6_nextNow 5 = .ok (.aload_n 0, 1) := by decide +kernel
theorem dX6_nextNow_6 : decode cX6_nextNow 6 = .ok (.getfield 126, 3) := by decide +kernel
theorem dX6_nextNow_9 : decode cX6_nextNow 9 = .ok (.if_icmp .ge 37, 3) := by decide +kernel
theorem dX6_nextNow_12 : decode cX6_nextNow 12 = .ok (.aload_n 0, 1) := by decide +kernel
theorem dX6_nextNow_13 : decode cX6_nextNow 13 = .ok (.iload_n 2, 1) := by decide +kernel
theorem dX6_nextNow_14 : decode cX6_nextNow 14 = .ok (.invokevirtual 217, 3) := by decide +kernel
theorem dX6_nextNow_17 : decode cX6_nextNow 17 = .ok (.ifCond .eq 21, 3) := by decide +kernel
theorem dX6_nextNow_20 : decode cX6_nextNow 20 = .ok (.iload_n 1, 1) := by decide +kernel
theorem dX6_nextNow_21 : decode cX6_nextNow 21 = .ok (.iconst (-1), 1) := by decide +kernel
theorem dX6_nextNow_22 : decode cX6_nextNow 22 = .ok (.if_icmp .eq 12, 3) := by decide +kernel
theorem dX6_nextNow_25 : decode cX6_nextNow 25 = .ok (.aload_n 0, 1) := by decide +kernel
theorem dX6_nextNow_26 : decode cX6_nextNow 26 = .ok (.iload_n 2, 1) := by decide +kernel
theorem dX6_nextNow_27 : decode cX6_nextNow 27 = .ok (.iload_n 1, 1) := by decide +kernel
theorem dX6_nextNow_28 : decode cX6_nextNow 28 = .ok (.invokevirtual 257, 3) := by decide +kernel
theorem dX6_nextNow_31 : decode cX6_nextNow 31 = .ok (.ifCond .eq 7, 3) := by decide +kernel
theorem dX6_nextNow_34 : decode cX6_nextNow 34 = .ok (.iload_n 2, 1) := by decide +kernel
theorem dX6_nextNow_35 : decode cX6_nextNow 35 = .ok (.goto 4, 3) := by decide +kernel
theorem dX6_nextNow_38 : decode cX6_nextNow 38 = .ok (.iload_n 1, 1) := by decide +kernel
theorem dX6_nextNow_39 : decode cX6_nextNow 39 = .ok (.istore_n 1, 1) := by decide +kernel
theorem dX6_nextNow_40 : decode cX6_nextNow 40 = .ok (.iinc 2 1, 3) := by decide +kernel
theorem dX6_nextNow_43 : decode cX6_nextNow 43 = .ok (.goto (-39), 3) := by decide +kernel
theorem dX6_nextNow_46 : decode cX6_nextNow 46 = .ok (.iload_n 1, 1) := by decide +kernel
theorem dX6_nextNow_47 : decode cX6_nextNow 47 = .ok (.ireturn, 1) := by decide +kernel
theorem dX6_next_0 : decode cX6_next 0 = .ok (.aload_n 0, 1) := by decide +kernel
theorem dX6_next_1 : decode cX6_next 1 = .ok (.invokevirtual 207, 3) := by decide +kernel
theorem dX6_next_4 : decode cX6_next 4 = .ok (.ifCond .eq 7, 3) := by decide +kernel
theorem dX6_next_7 : decode cX6_next 7 = .ok (.iconst 0, 1) := by decide +kernel
theorem dX6_next_8 : decode cX6_next 8 = .ok (.goto 7, 3) := by decide +kernel
theorem dX6_next_11 : decode cX6_next 11 = .ok (.aload_n 0, 1) := by decide +kernel
theorem dX6_next_12 : decode cX6_next 12 = .ok (.invokevirtual 260, 3) := by decide +kernel
theorem dX6_next_15 : decode cX6_next 15 = .ok (.ireturn, 1) := by decide +kernel
theorem dX6_stale_0 : decode cX6_stale 0 = .ok (.aload_n 0, 1) := by decide +kernel
theorem dX6_stale_1 : decode cX6_stale 1 = .ok (.invokevirtual 207, 3) := by decide +kernel
theorem dX6_stale_4 : decode cX6_stale 4 = .ok (.ifCond .eq 5, 3) := by decide +kernel
theorem dX6_stale_7 : decode cX6_stale 7 = .ok (.iconst 0, 1) := by decide +kernel
theorem dX6_stale_8 : decode cX6_stale 8 = .ok (.ireturn, 1) := by decide +kernel
theorem dX6_stale_9 : decode cX6_stale 9 = .ok (.iconst 0, 1) := by decide +kernel
theorem dX6_stale_10 : decode cX6_stale 10 = .ok (.istore_n 1, 1) := by decide +kernel
theorem dX6_stale_11 : decode cX6_stale 11 = .ok (.iconst 0, 1) := by decide +kernel
theorem dX6_stale_12 : decode cX6_stale 12 = .ok (.istore_n 2, 1) := by decide +kernel
theorem dX6_stale_13 : decode cX6_stale 13 = .ok (.iload_n 2, 1) := by decide +kernel
theorem dX6_stale_14 : decode cX6_stale 14 = .ok (.aload_n 0, 1) := by decide +kernel
theorem dX6_stale_15 : decode cX6_stale 15 = .ok (.getfield 126, 3) := by decide +kernel
theorem dX6_stale_18 : decode cX6_stale 18 = .ok (.if_icmp .ge 36, 3) := by decide +kernel
theorem dX6_stale_21 : decode cX6_stale 21 = .ok (.iload_n 1, 1) := by decide +kernel
theorem dX6_stale_22 : decode cX6_stale 22 = .ok (.aload_n 0, 1) := by decide +kernel
theorem dX6_stale_23 : decode cX6_stale 23 = .ok (.getfield 7, 3) := by decide +kernel
theorem dX6_stale_26 : decode cX6_stale 26 = .ok (.iconst 0, 1) := by decide +kernel
theorem dX6_stale_27 : decode cX6_stale 27 = .ok (.iload_n 2, 1) := by decide +kernel
theorem dX6_stale_28 : decode cX6_stale 28 = .ok (.iadd, 1) := by decide +kernel
theorem dX6_stale_29 : decode cX6_stale 29 = .ok (.iaload, 1) := by decide +kernel
theorem dX6_stale_30 : decode cX6_stale 30 = .ok (.aload_n 0, 1) := by decide +kernel
theorem dX6_stale_31 : decode cX6_stale 31 = .ok (.iload_n 2, 1) := by decide +kernel
theorem dX6_stale_32 : decode cX6_stale 32 = .ok (.invokevirtual 226, 3) := by decide +kernel
theorem dX6_stale_35 : decode cX6_stale 35 = .ok (.if_icmp .eq 7, 3) := by decide +kernel
theorem dX6_stale_38 : decode cX6_stale 38 = .ok (.iconst 1, 1) := by decide +kernel
theorem dX6_stale_39 : decode cX6_stale 39 = .ok (.goto 4, 3) := by decide +kernel
theorem dX6_stale_42 : decode cX6_stale 42 = .ok (.iconst 0, 1) := by decide +kernel
theorem dX6_stale_43 : decode cX6_stale 43 = .ok (.invokestatic 232, 3) := by decide +kernel
theorem dX6_stale_46 : decode cX6_stale 46 = .ok (.iadd, 1) := by decide +kernel
theorem dX6_stale_47 : decode cX6_stale 47 = .ok (.istore_n 1, 1) := by decide +kernel
theorem dX6_stale_48 : decode cX6_stale 48 = .ok (.iinc 2 1, 3) := by decide +kernel
theorem dX6_stale_51 : decode cX6_stale 51 = .ok (.goto (-38), 3) := by decide +kernel
theorem dX6_stale_54 : decode cX6_stale 54 = .ok (.iload_n 1, 1) := by decide +kernel
theorem dX6_stale_55 : decode cX6_stale 55 = .ok (.ireturn, 1) := by decide +kernel
theorem dX6_noRange_0 : decode cX6_noRange 0 = .ok (.aload_n 0, 1) := by decide +kernel
theorem dX6_noRange_1 : decode cX6_noRange 1 = .ok (.iload_n 1, 1) := by decide +kernel
theorem dX6_noRange_2 : decode cX6_noRange 2 = .ok (.invokevirtual 223, 3) := by decide +kernel
theorem dX6_noRange_5 : decode cX6_noRange 5 = .ok (.ifCond .ne 42, 3) := by decide +kernel
theorem dX6_noRange_8 : decode cX6_noRange 8 = .ok (.aload_n 0, 1) := by decide +kernel
theorem dX6_noRange_9 : decode cX6_noRange 9 = .ok (.aload_n 0, 1) := by decide +kernel
theorem dX6_noRange_10 : decode cX6_noRange 10 = .ok (.iload_n 2, 1) := by decide +kernel
theorem dX6_noRange_11 : decode cX6_noRange 11 = .ok (.invokevirtual 211, 3) := by decide +kernel
theorem dX6_noRange_14 : decode cX6_noRange 14 = .ok (.ifCond .ne 7, 3) := by decide +kernel
theorem dX6_noRange_17 : decode cX6_noRange 17 = .ok (.iconst 1, 1) := by decide +kernel
theorem dX6_noRange_18 : decode cX6_noRange 18 = .ok (.goto 4, 3) := by decide +kernel
theorem dX6_noRange_21 : decode cX6_noRange 21 = .ok (.iconst 0, 1) := by decide +kernel
theorem dX6_noRange_22 : decode cX6_noRange 22 = .ok (.iconst 2, 1) := by decide +kernel
theorem dX6_noRange_23 : decode cX6_noRange 23 = .ok (.invokevirtual 40, 3) := by decide +kernel
theorem dX6_noRange_26 : decode cX6_noRange 26 = .ok (.ifCond .ne 21, 3) := by decide +kernel
theorem dX6_noRange_29 : decode cX6_noRange 29 = .ok (.aload_n 0, 1) := by decide +kernel
theorem dX6_noRange_30 : decode cX6_noRange 30 = .ok (.iload_n 2, 1) := by decide +kernel
theorem dX6_noRange_31 : decode cX6_noRange 31 = .ok (.iload_n 1, 1) := by decide +kernel
theorem dX6_noRange_32 : decode cX6_noRange 32 = .ok (.if_icmp .ge 7, 3) := by decide +kernel
theorem dX6_noRange_35 : decode cX6_noRange 35 = .ok (.iconst 1, 1) := by decide +kernel
theorem dX6_noRange_36 : decode cX6_noRange 36 = .ok (.goto 4, 3) := by decide +kernel
theorem dX6_noRange_39 : decode cX6_noRange 39 = .ok (.iconst 0, 1) := by decide +kernel
theorem dX6_noRange_40 : decode cX6_noRange 40 = .ok (.iconst 3, 1) := by decide +kernel
theorem dX6_noRange_41 : decode cX6_noRange 41 = .ok (.invokevirtual 40, 3) := by decide +kernel
theorem dX6_noRange_44 : decode cX6_noRange 44 = .ok (.ifCond .eq 7, 3) := by decide +kernel
theorem dX6_noRange_47 : decode cX6_noRange 47 = .ok (.iconst 1, 1) := by decide +kernel
theorem dX6_noRange_48 : decode cX6_noRange 48 = .ok (.goto 4, 3) := by decide +kernel
theorem dX6_noRange_51 : decode cX6_noRange 51 = .ok (.iconst 0, 1) := by decide +kernel
theorem dX6_noRange_52 : decode cX6_noRange 52 = .ok (.ireturn, 1) := by decide +kernel
theorem dX6_sum_0 : decode cX6_sum 0 = .ok (.aload_n 0, 1) := by decide +kernel
theorem dX6_sum_1 : decode cX6_sum 1 = .ok (.iload_n 1, 1) := by decide +kernel
theorem dX6_sum_2 : decode cX6_sum 2 = .ok (.iload_n 2, 1) := by decide +kernel
theorem dX6_sum_3 : decode cX6_sum 3 = .ok (.invokevirtual 251, 3) := by decide +kernel
theorem dX6_sum_6 : decode cX6_sum 6 = .ok (.ifCond .eq 5, 3) := by decide +kernel
theorem dX6_sum_9 : decode cX6_sum 9 = .ok (.iconst 0, 1) := by decide +kernel
theorem dX6_sum_10 : decode cX6_sum 10 = .ok (.ireturn, 1) := by decide +kernel
theorem dX6_sum_11 : decode cX6_sum 11 = .ok (.iconst 0, 1) := by decide +kernel
theorem dX6_sum_12 : decode cX6_sum 12 = .ok (.istore_n 3, 1) := by decide +kernel
theorem dX6_sum_13 : decode cX6_sum 13 = .ok (.iload_n 1, 1) := by decide +kernel
theorem dX6_sum_14 : decode cX6_sum 14 = .ok (.istore 4, 2) := by decide +kernel
theorem dX6_sum_16 : decode cX6_sum 16 = .ok (.iload 4, 2) := by decide +kernel
theorem dX6_sum_18 : decode cX6_sum 18 = .ok (.iload_n 2, 1) := by decide +kernel
theorem dX6_sum_19 : decode cX6_sum 19 = .ok (.if_icmp .gt 18, 3) := by decide +kernel
theorem dX6_sum_22 : decode cX6_sum 22 = .ok (.iload_n 3, 1) := by decide +kernel
theorem dX6_sum_23 : decode cX6_sum 23 = .ok (.aload_n 0, 1) := by decide +kernel
theorem dX6_sum_24 : decode cX6_sum 24 = .ok (.iload 4, 2) := by decide +kernel
theorem dX6_sum_26 : decode cX6_sum 26 = .ok (.invokevirtual 226, 3) := by decide +kernel
theorem dX6_sum_29 : decode cX6_sum 29 = .ok (.iadd, 1) := by decide +kernel
theorem dX6_sum_30 : decode cX6_sum 30 = .ok (.istore_n 3, 1) := by decide +kernel
theorem dX6_sum_31 : decode cX6_sum 31 = .ok (.iinc 4 1, 3) := by decide +kernel
theorem dX6_sum_34 : decode cX6_sum 34 = .ok (.goto (-18), 3) := by decide +kernel
theorem dX6_sum_37 : decode cX6_sum 37 = .ok (.iload_n 3, 1) := by decide +kernel
theorem dX6_sum_38 : decode cX6_sum 38 = .ok (.ireturn, 1) := by decide +kernel
theorem dX6_find_0 : decode cX6_find 0 = .ok (.aload_n 0, 1) := by decide +kernel
theorem dX6_find_1 : decode cX6_find 1 = .ok (.iload_n 2, 1) := by decide +kernel
theorem dX6_find_2 : decode cX6_find 2 = .ok (.invokevirtual 223, 3) := by decide +kernel
theorem dX6_find_5 : decode cX6_find 5 = .ok (.ifCond .ne 27, 3) := by decide +kernel
theorem dX6_find_8 : decode cX6_find 8 = .ok (.aload_n 0, 1) := by decide +kernel
theorem dX6_find_9 : decode cX6_find 9 = .ok (.iload_n 1, 1) := by decide +kernel
theorem dX6_find_10 : decode cX6_find 10 = .ok (.iconst 0, 1) := by decide +kernel
theorem dX6_find_11 : decode cX6_find 11 = .ok (.sipush 255, 3) := by decide +kernel
theorem dX6_find_14 : decode cX6_find 14 = .ok (.invokestatic 98, 3) := by decide +kernel
theorem dX6_find_17 : decode cX6_find 17 = .ok (.ifCond .ne 7, 3) := by decide +kernel
theorem dX6_find_20 : decode cX6_find 20 = .ok (.iconst 1, 1) := by decide +kernel
theorem dX6_find_21 : decode cX6_find 21 = .ok (.goto 4, 3) := by decide +kernel
theorem dX6_find_24 : decode cX6_find 24 = .ok (.iconst 0, 1) := by decide +kernel
theorem dX6_find_25 : decode cX6_find 25 = .ok (.iconst 3, 1) := by decide +kernel
theorem dX6_find_26 : decode cX6_find 26 = .ok (.invokevirtual 40, 3) := by decide +kernel
theorem dX6_find_29 : decode cX6_find 29 = .ok (.ifCond .eq 5, 3) := by decide +kernel
theorem dX6_find_32 : decode cX6_find 32 = .ok (.iconst 0, 1) := by decide +kernel
theorem dX6_find_33 : decode cX6_find 33 = .ok (.ireturn, 1) := by decide +kernel
theorem dX6_find_34 : decode cX6_find 34 = .ok (.iload_n 2, 1) := by decide +kernel
theorem dX6_find_35 : decode cX6_find 35 = .ok (.istore_n 3, 1) := by decide +kernel
theorem dX6_find_36 : decode cX6_find 36 = .ok (.iload_n 3, 1) := by decide +kernel
theorem dX6_find_37 : decode cX6_find 37 = .ok (.aload_n 0, 1) := by decide +kernel
theorem dX6_find_38 : decode cX6_find 38 = .ok (.getfield 126, 3) := by decide +kernel
theorem dX6_find_41 : decode cX6_find 41 = .ok (.if_icmp .ge 18, 3) := by decide +kernel
theorem dX6_find_44 : decode cX6_find 44 = .ok (.aload_n 0, 1) := by decide +kernel
theorem dX6_find_45 : decode cX6_find 45 = .ok (.iload_n 3, 1) := by decide +kernel
theorem dX6_find_46 : decode cX6_find 46 = .ok (.invokevirtual 226, 3) := by decide +kernel
theorem dX6_find_49 : decode cX6_find 49 = .ok (.iload_n 1, 1) := by decide +kernel
theorem dX6_find_50 : decode cX6_find 50 = .ok (.if_icmp .eq 9, 3) := by decide +kernel
theorem dX6_find_53 : decode cX6_find 53 = .ok (.iinc 3 1, 3) := by decide +kernel
theorem dX6_find_56 : decode cX6_find 56 = .ok (.goto (-20), 3) := by decide +kernel
theorem dX6_find_59 : decode cX6_find 59 = .ok (.iload_n 3, 1) := by decide +kernel
theorem dX6_find_60 : decode cX6_find 60 = .ok (.aload_n 0, 1) := by decide +kernel
theorem dX6_find_61 : decode cX6_find 61 = .ok (.getfield 126, 3) := by decide +kernel
theorem dX6_find_64 : decode cX6_find 64 = .ok (.if_icmp .ne 7, 3) := by decide +kernel
theorem dX6_find_67 : decode cX6_find 67 = .ok (.iconst (-1), 1) := by decide +kernel
theorem dX6_find_68 : decode cX6_find 68 = .ok (.goto 4, 3) := by decide +kernel
theorem dX6_find_71 : decode cX6_find 71 = .ok (.iload_n 3, 1) := by decide +kernel
theorem dX6_find_72 : decode cX6_find 72 = .ok (.ireturn, 1) := by decide +kernel
theorem dX6_same_0 : decode cX6_same 0 = .ok (.aload_n 0, 1) := by decide +kernel
theorem dX6_same_1 : decode cX6_same 1 = .ok (.iload_n 1, 1) := by decide +kernel
theorem dX6_same_2 : decode cX6_same 2 = .ok (.invokevirtual 223, 3) := by decide +kernel
theorem dX6_same_5 : decode cX6_same 5 = .ok (.ifCond .ne 55, 3) := by decide +kernel
theorem dX6_same_8 : decode cX6_same 8 = .ok (.aload_n 0, 1) := by decide +kernel
theorem dX6_same_9 : decode cX6_same 9 = .ok (.aload_n 0, 1) := by decide +kernel
theorem dX6_same_10 : decode cX6_same 10 = .ok (.iload_n 2, 1) := by decide +kernel
theorem dX6_same_11 : decode cX6_same 11 = .ok (.invokevirtual 211, 3) := by decide +kernel
theorem dX6_same_14 : decode cX6_same 14 = .ok (.ifCond .ne 7, 3) := by decide +kernel
theorem dX6_same_17 : decode cX6_same 17 = .ok (.iconst 1, 1) := by decide +kernel
theorem dX6_same_18 : decode cX6_same 18 = .ok (.goto 4, 3) := by decide +kernel
theorem dX6_same_21 : decode cX6_same 21 = .ok (.iconst 0, 1) := by decide +kernel
theorem dX6_same_22 : decode cX6_same 22 = .ok (.iconst 2, 1) := by decide +kernel
theorem dX6_same_23 : decode cX6_same 23 = .ok (.invokevirtual 40, 3) := by decide +kernel
theorem dX6_same_26 : decode cX6_same 26 = .ok (.ifCond .ne 34, 3) := by decide +kernel
theorem dX6_same_29 : decode cX6_same 29 = .ok (.aload_n 0, 1) := by decide +kernel
theorem dX6_same_30 : decode cX6_same 30 = .ok (.iload_n 3, 1) := by decide +kernel
theorem dX6_same_31 : decode cX6_same 31 = .ok (.iconst 1, 1) := by decide +kernel
theorem dX6_same_32 : decode cX6_same 32 = .ok (.aload_n 0, 1) := by decide +kernel
theorem dX6_same_33 : decode cX6_same 33 = .ok (.getfield 126, 3) := by decide +kernel
theorem dX6_same_36 : decode cX6_same 36 = .ok (.iload_n 1, 1) := by decide +kernel
theorem dX6_same_37 : decode cX6_same 37 = .ok (.iload_n 2, 1) := by decide +kernel
theorem dX6_same_38 : decode cX6_same 38 = .ok (.invokestatic 263, 3) := by decide +kernel
theorem dX6_same_41 : decode cX6_same 41 = .ok (.isub, 1) := by decide +kernel
theorem dX6_same_42 : decode cX6_same 42 = .ok (.invokestatic 98, 3) := by decide +kernel
theorem dX6_same_45 : decode cX6_same 45 = .ok (.ifCond .ne 7, 3) := by decide +kernel
theorem dX6_same_48 : decode cX6_same 48 = .ok (.iconst 1, 1) := by decide +kernel
theorem dX6_same_49 : decode cX6_same 49 = .ok (.goto 4, 3) := by decide +kernel
theorem dX6_same_52 : decode cX6_same 52 = .ok (.iconst 0, 1) := by decide +kernel
theorem dX6_same_53 : decode cX6_same 53 = .ok (.iconst 3, 1) := by decide +kernel
theorem dX6_same_54 : decode cX6_same 54 = .ok (.invokevirtual 40, 3) := by decide +kernel
theorem dX6_same_57 : decode cX6_same 57 = .ok (.ifCond .eq 5, 3) := by decide +kernel
theorem dX6_same_60 : decode cX6_same 60 = .ok (.iconst 0, 1) := by decide +kernel
theorem dX6_same_61 : decode cX6_same 61 = .ok (.ireturn, 1) := by decide +kernel
theorem dX6_same_62 : decode cX6_same 62 = .ok (.iconst 0, 1) := by decide +kernel
theorem dX6_same_63 : decode cX6_same 63 = .ok (.istore 4, 2) := by decide +kernel
theorem dX6_same_65 : decode cX6_same 65 = .ok (.iload 4, 2) := by decide +kernel
theorem dX6_same_67 : decode cX6_same 67 = .ok (.iload_n 3, 1) := by decide +kernel
theorem dX6_same_68 : decode cX6_same 68 = .ok (.if_icmp .ge 30, 3) := by decide +kernel
theorem dX6_same_71 : decode cX6_same 71 = .ok (.aload_n 0, 1) := by decide +kernel
theorem dX6_same_72 : decode cX6_same 72 = .ok (.iload_n 1, 1) := by decide +kernel
theorem dX6_same_73 : decode cX6_same 73 = .ok (.iload 4, 2) := by decide +kernel
theorem dX6_same_75 : decode cX6_same 75 = .ok (.iadd, 1) := by decide +kernel
theorem dX6_same_76 : decode cX6_same 76 = .ok (.invokevirtual 226, 3) := by decide +kernel
theorem dX6_same_79 : decode cX6_same 79 = .ok (.aload_n 0, 1) := by decide +kernel
theorem dX6_same_80 : decode cX6_same 80 = .ok (.iload_n 2, 1) := by decide +kernel
theorem dX6_same_81 : decode cX6_same 81 = .ok (.iload 4, 2) := by decide +kernel
theorem dX6_same_83 : decode cX6_same 83 = .ok (.iadd, 1) := by decide +kernel
theorem dX6_same_84 : decode cX6_same 84 = .ok (.invokevirtual 226, 3) := by decide +kernel
theorem dX6_same_87 : decode cX6_same 87 = .ok (.if_icmp .eq 5, 3) := by decide +kernel
theorem dX6_same_90 : decode cX6_same 90 = .ok (.iconst 0, 1) := by decide +kernel
theorem dX6_same_91 : decode cX6_same 91 = .ok (.ireturn, 1) := by decide +kernel
theorem dX6_same_92 : decode cX6_same 92 = .ok (.iinc 4 1, 3) := by decide +kernel
theorem dX6_same_95 : decode cX6_same 95 = .ok (.goto (-30), 3) := by decide +kernel
theorem dX6_same_98 : decode cX6_same 98 = .ok (.iconst 1, 1) := by decide +kernel
theorem dX6_same_99 : decode cX6_same 99 = .ok (.ireturn, 1) := by decide +kernel
theorem dX6_checksum_0 : decode cX6_checksum 0 = .ok (.aload_n 0, 1) := by decide +kernel
theorem dX6_checksum_1 : decode cX6_checksum 1 = .ok (.invokevirtual 207, 3) := by decide +kernel
theorem dX6_checksum_4 : decode cX6_checksum 4 = .ok (.ifCond .eq 5, 3) := by decide +kernel
theorem dX6_checksum_7 : decode cX6_checksum 7 = .ok (.lconst 0, 1) := by decide +kernel
theorem dX6_checksum_8 : decode cX6_checksum 8 = .ok (.lreturn, 1) := by decide +kernel
theorem dX6_checksum_9 : decode cX6_checksum 9 = .ok (.ldc2_w 268, 3) := by decide +kernel
theorem dX6_checksum_12 : decode cX6_checksum 12 = .ok (.lstore_n 1, 1) := by decide +kernel
theorem dX6_checksum_13 : decode cX6_checksum 13 = .ok (.iconst 0, 1) := by decide +kernel
theorem dX6_checksum_14 : decode cX6_checksum 14 = .ok (.istore_n 3, 1) := by decide +kernel
theorem dX6_checksum_15 : decode cX6_checksum 15 = .ok (.iload_n 3, 1) := by decide +kernel
theorem dX6_checksum_16 : decode cX6_checksum 16 = .ok (.aload_n 0, 1) := by decide +kernel
theorem dX6_checksum_17 : decode cX6_checksum 17 = .ok (.getfield 126, 3) := by decide +kernel
theorem dX6_checksum_20 : decode cX6_checksum 20 = .ok (.if_icmp .ge 22, 3) := by decide +kernel
theorem dX6_checksum_23 : decode cX6_checksum 23 = .ok (.ldc2_w 270, 3) := by decide +kernel
theorem dX6_checksum_26 : decode cX6_checksum 26 = .ok (.lload_n 1, 1) := by decide +kernel
theorem dX6_checksum_27 : decode cX6_checksum 27 = .ok (.lmul, 1) := by decide +kernel
theorem dX6_checksum_28 : decode cX6_checksum 28 = .ok (.aload_n 0, 1) := by decide +kernel
theorem dX6_checksum_29 : decode cX6_checksum 29 = .ok (.iload_n 3, 1) := by decide +kernel
theorem dX6_checksum_30 : decode cX6_checksum 30 = .ok (.invokevirtual 226, 3) := by decide +kernel
theorem dX6_checksum_33 : decode cX6_checksum 33 = .ok (.i2l, 1) := by decide +kernel
theorem dX6_checksum_34 : decode cX6_checksum 34 = .ok (.ladd, 1) := by decide +kernel
theorem dX6_checksum_35 : decode cX6_checksum 35 = .ok (.lstore_n 1, 1) := by decide +kernel
theorem dX6_checksum_36 : decode cX6_checksum 36 = .ok (.iinc 3 1, 3) := by decide +kernel
theorem dX6_checksum_39 : decode cX6_checksum 39 = .ok (.goto (-24), 3) := by decide +kernel
theorem dX6_checksum_42 : decode cX6_checksum 42 = .ok (.lload_n 1, 1) := by decide +kernel
theorem dX6_checksum_43 : decode cX6_checksum 43 = .ok (.lreturn, 1) := by decide +kernel
theorem dX6_logs_0 : decode cX6_logs 0 = .ok (.aload_n 0, 1) := by decide +kernel
theorem dX6_logs_1 : decode cX6_logs 1 = .ok (.getfield 7, 3) := by decide +kernel
theorem dX6_logs_4 : decode cX6_logs 4 = .ok (.sipush 399, 3) := by decide +kernel
theorem dX6_logs_7 : decode cX6_logs 7 = .ok (.iaload, 1) := by decide +kernel
theorem dX6_logs_8 : decode cX6_logs 8 = .ok (.bipush 80, 2) := by decide +kernel
theorem dX6_logs_10 : decode cX6_logs 10 = .ok (.if_icmp .ne 4, 3) := by decide +kernel
theorem dX6_logs_13 : decode cX6_logs 13 = .ok (.return_, 1) := by decide +kernel
theorem dX6_logs_14 : decode cX6_logs 14 = .ok (.sipush 400, 3) := by decide +kernel
theorem dX6_logs_17 : decode cX6_logs 17 = .ok (.iconst 3, 1) := by decide +kernel
theorem dX6_logs_18 : decode cX6_logs 18 = .ok (.aload_n 0, 1) := by decide +kernel
theorem dX6_logs_19 : decode cX6_logs 19 = .ok (.getfield 7, 3) := by decide +kernel
theorem dX6_logs_22 : decode cX6_logs 22 = .ok (.sipush 399, 3) := by decide +kernel
theorem dX6_logs_25 : decode cX6_logs 25 = .ok (.iaload, 1) := by decide +kernel
theorem dX6_logs_26 : decode cX6_logs 26 = .ok (.imul, 1) := by decide +kernel
theorem dX6_logs_27 : decode cX6_logs 27 = .ok (.iadd, 1) := by decide +kernel
theorem dX6_logs_28 : decode cX6_logs 28 = .ok (.istore 4, 2) := by decide +kernel
theorem dX6_logs_30 : decode cX6_logs 30 = .ok (.aload_n 0, 1) := by decide +kernel
theorem dX6_logs_31 : decode cX6_logs 31 = .ok (.getfield 7, 3) := by decide +kernel
theorem dX6_logs_34 : decode cX6_logs 34 = .ok (.iload 4, 2) := by decide +kernel
theorem dX6_logs_36 : decode cX6_logs 36 = .ok (.iload_n 1, 1) := by decide +kernel
theorem dX6_logs_37 : decode cX6_logs 37 = .ok (.iastore, 1) := by decide +kernel
theorem dX6_logs_38 : decode cX6_logs 38 = .ok (.aload_n 0, 1) := by decide +kernel
theorem dX6_logs_39 : decode cX6_logs 39 = .ok (.getfield 7, 3) := by decide +kernel
theorem dX6_logs_42 : decode cX6_logs 42 = .ok (.iload 4, 2) := by decide +kernel
theorem dX6_logs_44 : decode cX6_logs 44 = .ok (.iconst 1, 1) := by decide +kernel
theorem dX6_logs_45 : decode cX6_logs 45 = .ok (.iadd, 1) := by decide +kernel
theorem dX6_logs_46 : decode cX6_logs 46 = .ok (.iload_n 2, 1) := by decide +kernel
theorem dX6_logs_47 : decode cX6_logs 47 = .ok (.iastore, 1) := by decide +kernel
theorem dX6_logs_48 : decode cX6_logs 48 = .ok (.aload_n 0, 1) := by decide +kernel
theorem dX6_logs_49 : decode cX6_logs 49 = .ok (.getfield 7, 3) := by decide +kernel
theorem dX6_logs_52 : decode cX6_logs 52 = .ok (.iload 4, 2) := by decide +kernel
theorem dX6_logs_54 : decode cX6_logs 54 = .ok (.iconst 2, 1) := by decide +kernel
theorem dX6_logs_55 : decode cX6_logs 55 = .ok (.iadd, 1) := by decide +kernel
theorem dX6_logs_56 : decode cX6_logs 56 = .ok (.iload_n 3, 1) := by decide +kernel
theorem dX6_logs_57 : decode cX6_logs 57 = .ok (.iastore, 1) := by decide +kernel
theorem dX6_logs_58 : decode cX6_logs 58 = .ok (.aload_n 0, 1) := by decide +kernel
theorem dX6_logs_59 : decode cX6_logs 59 = .ok (.getfield 7, 3) := by decide +kernel
theorem dX6_logs_62 : decode cX6_logs 62 = .ok (.sipush 399, 3) := by decide +kernel
theorem dX6_logs_65 : decode cX6_logs 65 = .ok (.dup2, 1) := by decide +kernel
theorem dX6_logs_66 : decode cX6_logs 66 = .ok (.iaload, 1) := by decide +kernel
theorem dX6_logs_67 : decode cX6_logs 67 = .ok (.iconst 1, 1) := by decide +kernel
theorem dX6_logs_68 : decode cX6_logs 68 = .ok (.iadd, 1) := by decide +kernel
theorem dX6_logs_69 : decode cX6_logs 69 = .ok (.iastore, 1) := by decide +kernel
theorem dX6_logs_70 : decode cX6_logs 70 = .ok (.return_, 1) := by decide +kernel
theorem dX6_notes_0 : decode cX6_notes 0 = .ok (.aload_n 0, 1) := by decide +kernel
theorem dX6_notes_1 : decode cX6_notes 1 = .ok (.getfield 7, 3) := by decide +kernel
theorem dX6_notes_4 : decode cX6_notes 4 = .ok (.sipush 392, 3) := by decide +kernel
theorem dX6_notes_7 : decode cX6_notes 7 = .ok (.iload_n 1, 1) := by decide +kernel
theorem dX6_notes_8 : decode cX6_notes 8 = .ok (.iadd, 1) := by decide +kernel
theorem dX6_notes_9 : decode cX6_notes 9 = .ok (.iconst 1, 1) := by decide +kernel
theorem dX6_notes_10 : decode cX6_notes 10 = .ok (.isub, 1) := by decide +kernel
theorem dX6_notes_11 : decode cX6_notes 11 = .ok (.dup2, 1) := by decide +kernel
theorem dX6_notes_12 : decode cX6_notes 12 = .ok (.iaload, 1) := by decide +kernel
theorem dX6_notes_13 : decode cX6_notes 13 = .ok (.iconst 1, 1) := by decide +kernel
theorem dX6_notes_14 : decode cX6_notes 14 = .ok (.iadd, 1) := by decide +kernel
theorem dX6_notes_15 : decode cX6_notes 15 = .ok (.iastore, 1) := by decide +kernel
theorem dX6_notes_16 : decode cX6_notes 16 = .ok (.aload_n 0, 1) := by decide +kernel
theorem dX6_notes_17 : decode cX6_notes 17 = .ok (.getfield 7, 3) := by decide +kernel
theorem dX6_notes_20 : decode cX6_notes 20 = .ok (.sipush 397, 3) := by decide +kernel
theorem dX6_notes_23 : decode cX6_notes 23 = .ok (.dup2, 1) := by decide +kernel
theorem dX6_notes_24 : decode cX6_notes 24 = .ok (.iaload, 1) := by decide +kernel
theorem dX6_notes_25 : decode cX6_notes 25 = .ok (.iload_n 1, 1) := by decide +kernel
theorem dX6_notes_26 : decode cX6_notes 26 = .ok (.iconst 1, 1) := by decide +kernel
theorem dX6_notes_27 : decode cX6_notes 27 = .ok (.if_icmp .ne 7, 3) := by decide +kernel
theorem dX6_notes_30 : decode cX6_notes 30 = .ok (.iconst 1, 1) := by decide +kernel
theorem dX6_notes_31 : decode cX6_notes 31 = .ok (.goto 13, 3) := by decide +kernel
theorem dX6_notes_34 : decode cX6_notes 34 = .ok (.iload_n 1, 1) := by decide +kernel
theorem dX6_notes_35 : decode cX6_notes 35 = .ok (.iconst 2, 1) := by decide +kernel
theorem dX6_notes_36 : decode cX6_notes 36 = .ok (.if_icmp .ne 7, 3) := by decide +kernel
theorem dX6_notes_39 : decode cX6_notes 39 = .ok (.iconst 3, 1) := by decide +kernel
theorem dX6_notes_40 : decode cX6_notes 40 = .ok (.goto 4, 3) := by decide +kernel
theorem dX6_notes_43 : decode cX6_notes 43 = .ok (.iconst 2, 1) := by decide +kernel
theorem dX6_notes_44 : decode cX6_notes 44 = .ok (.iadd, 1) := by decide +kernel
theorem dX6_notes_45 : decode cX6_notes 45 = .ok (.iastore, 1) := by decide +kernel
theorem dX6_notes_46 : decode cX6_notes 46 = .ok (.aload_n 0, 1) := by decide +kernel
theorem dX6_notes_47 : decode cX6_notes 47 = .ok (.iload_n 1, 1) := by decide +kernel
theorem dX6_notes_48 : decode cX6_notes 48 = .ok (.iload_n 2, 1) := by decide +kernel
theorem dX6_notes_49 : decode cX6_notes 49 = .ok (.aload_n 0, 1) := by decide +kernel
theorem dX6_notes_50 : decode cX6_notes 50 = .ok (.getfield 7, 3) := by decide +kernel
theorem dX6_notes_53 : decode cX6_notes 53 = .ok (.iconst 0, 1) := by decide +kernel
theorem dX6_notes_54 : decode cX6_notes 54 = .ok (.iload_n 2, 1) := by decide +kernel
theorem dX6_notes_55 : decode cX6_notes 55 = .ok (.iadd, 1) := by decide +kernel
theorem dX6_notes_56 : decode cX6_notes 56 = .ok (.iaload, 1) := by decide +kernel
theorem dX6_notes_57 : decode cX6_notes 57 = .ok (.invokevirtual 272, 3) := by decide +kernel
theorem dX6_notes_60 : decode cX6_notes 60 = .ok (.return_, 1) := by decide +kernel
theorem dX6_owesNothing_0 : decode cX6_owesNothing 0 = .ok (.aload_n 0, 1) := by decide +kernel
theorem dX6_owesNothing_1 : decode cX6_owesNothing 1 = .ok (.getfield 7, 3) := by decide +kernel
theorem dX6_owesNothing_4 : decode cX6_owesNothing 4 = .ok (.bipush 96, 2) := by decide +kernel
theorem dX6_owesNothing_6 : decode cX6_owesNothing 6 = .ok (.iload_n 1, 1) := by decide +kernel
theorem dX6_owesNothing_7 : decode cX6_owesNothing 7 = .ok (.iadd, 1) := by decide +kernel
theorem dX6_owesNothing_8 : decode cX6_owesNothing 8 = .ok (.iconst (-1), 1) := by decide +kernel
theorem dX6_owesNothing_9 : decode cX6_owesNothing 9 = .ok (.iastore, 1) := by decide +kernel
theorem dX6_owesNothing_10 : decode cX6_owesNothing 10 = .ok (.aload_n 0, 1) := by decide +kernel
theorem dX6_owesNothing_11 : decode cX6_owesNothing 11 = .ok (.getfield 7, 3) := by decide +kernel
theorem dX6_owesNothing_14 : decode cX6_owesNothing 14 = .ok (.sipush 192, 3) := by decide +kernel
theorem dX6_owesNothing_17 : decode cX6_owesNothing 17 = .ok (.iload_n 1, 1) := by decide +kernel
theorem dX6_owesNothing_18 : decode cX6_owesNothing 18 = .ok (.iadd, 1) := by decide +kernel
theorem dX6_owesNothing_19 : decode cX6_owesNothing 19 = .ok (.iconst (-1), 1) := by decide +kernel
theorem dX6_owesNothing_20 : decode cX6_owesNothing 20 = .ok (.iastore, 1) := by decide +kernel
theorem dX6_owesNothing_21 : decode cX6_owesNothing 21 = .ok (.return_, 1) := by decide +kernel
theorem dX6_pays_0 : decode cX6_pays 0 = .ok (.aload_n 0, 1) := by decide +kernel
theorem dX6_pays_1 : decode cX6_pays 1 = .ok (.getfield 7, 3) := by decide +kernel
theorem dX6_pays_4 : decode cX6_pays 4 = .ok (.iconst 0, 1) := by decide +kernel
theorem dX6_pays_5 : decode cX6_pays 5 = .ok (.iload_n 1, 1) := by decide +kernel
theorem dX6_pays_6 : decode cX6_pays 6 = .ok (.iadd, 1) := by decide +kernel
theorem dX6_pays_7 : decode cX6_pays 7 = .ok (.aload_n 0, 1) := by decide +kernel
theorem dX6_pays_8 : decode cX6_pays 8 = .ok (.iload_n 1, 1) := by decide +kernel
theorem dX6_pays_9 : decode cX6_pays 9 = .ok (.invokevirtual 226, 3) := by decide +kernel
theorem dX6_pays_12 : decode cX6_pays 12 = .ok (.iastore, 1) := by decide +kernel
theorem dX6_pays_13 : decode cX6_pays 13 = .ok (.aload_n 0, 1) := by decide +kernel
theorem dX6_pays_14 : decode cX6_pays 14 = .ok (.iload_n 1, 1) := by decide +kernel
theorem dX6_pays_15 : decode cX6_pays 15 = .ok (.invokevirtual 275, 3) := by decide +kernel
theorem dX6_pays_18 : decode cX6_pays 18 = .ok (.aload_n 0, 1) := by decide +kernel
theorem dX6_pays_19 : decode cX6_pays 19 = .ok (.iload_n 2, 1) := by decide +kernel
theorem dX6_pays_20 : decode cX6_pays 20 = .ok (.iload_n 1, 1) := by decide +kernel
theorem dX6_pays_21 : decode cX6_pays 21 = .ok (.invokevirtual 278, 3) := by decide +kernel
theorem dX6_pays_24 : decode cX6_pays 24 = .ok (.return_, 1) := by decide +kernel
theorem dX6_drops_0 : decode cX6_drops 0 = .ok (.aload_n 0, 1) := by decide +kernel
theorem dX6_drops_1 : decode cX6_drops 1 = .ok (.iload_n 1, 1) := by decide +kernel
theorem dX6_drops_2 : decode cX6_drops 2 = .ok (.invokevirtual 217, 3) := by decide +kernel
theorem dX6_drops_5 : decode cX6_drops 5 = .ok (.ifCond .ne 4, 3) := by decide +kernel
theorem dX6_drops_8 : decode cX6_drops 8 = .ok (.return_, 1) := by decide +kernel
theorem dX6_drops_9 : decode cX6_drops 9 = .ok (.aload_n 0, 1) := by decide +kernel
theorem dX6_drops_10 : decode cX6_drops 10 = .ok (.getfield 7, 3) := by decide +kernel
theorem dX6_drops_13 : decode cX6_drops 13 = .ok (.sipush 395, 3) := by decide +kernel
theorem dX6_drops_16 : decode cX6_drops 16 = .ok (.dup2, 1) := by decide +kernel
theorem dX6_drops_17 : decode cX6_drops 17 = .ok (.iaload, 1) := by decide +kernel
theorem dX6_drops_18 : decode cX6_drops 18 = .ok (.iconst 1, 1) := by decide +kernel
theorem dX6_drops_19 : decode cX6_drops 19 = .ok (.iadd, 1) := by decide +kernel
theorem dX6_drops_20 : decode cX6_drops 20 = .ok (.iastore, 1) := by decide +kernel
theorem dX6_drops_21 : decode cX6_drops 21 = .ok (.aload_n 0, 1) := by decide +kernel
theorem dX6_drops_22 : decode cX6_drops 22 = .ok (.iconst 4, 1) := by decide +kernel
theorem dX6_drops_23 : decode cX6_drops 23 = .ok (.iload_n 1, 1) := by decide +kernel
theorem dX6_drops_24 : decode cX6_drops 24 = .ok (.aload_n 0, 1) := by decide +kernel
theorem dX6_drops_25 : decode cX6_drops 25 = .ok (.getfield 7, 3) := by decide +kernel
theorem dX6_drops_28 : decode cX6_drops 28 = .ok (.sipush 192, 3) := by decide +kernel
theorem dX6_drops_31 : decode cX6_drops 31 = .ok (.iload_n 1, 1) := by decide +kernel
theorem dX6_drops_32 : decode cX6_drops 32 = .ok (.iadd, 1) := by decide +kernel
theorem dX6_drops_33 : decode cX6_drops 33 = .ok (.iaload, 1) := by decide +kernel
theorem dX6_drops_34 : decode cX6_drops 34 = .ok (.invokevirtual 272, 3) := by decide +kernel
theorem dX6_drops_37 : decode cX6_drops 37 = .ok (.aload_n 0, 1) := by decide +kernel
theorem dX6_drops_38 : decode cX6_drops 38 = .ok (.iload_n 1, 1) := by decide +kernel
theorem dX6_drops_39 : decode cX6_drops 39 = .ok (.invokevirtual 275, 3) := by decide +kernel
theorem dX6_drops_42 : decode cX6_drops 42 = .ok (.return_, 1) := by decide +kernel
theorem dX6_paysOwing_0 : decode cX6_paysOwing 0 = .ok (.iconst 0, 1) := by decide +kernel
theorem dX6_paysOwing_1 : decode cX6_paysOwing 1 = .ok (.istore_n 3, 1) := by decide +kernel
theorem dX6_paysOwing_2 : decode cX6_paysOwing 2 = .ok (.iconst 0, 1) := by decide +kernel
theorem dX6_paysOwing_3 : decode cX6_paysOwing 3 = .ok (.istore 4, 2) := by decide +kernel
theorem dX6_paysOwing_5 : decode cX6_paysOwing 5 = .ok (.iload 4, 2) := by decide +kernel
theorem dX6_paysOwing_7 : decode cX6_paysOwing 7 = .ok (.aload_n 0, 1) := by decide +kernel
theorem dX6_paysOwing_8 : decode cX6_paysOwing 8 = .ok (.getfield 126, 3) := by decide +kernel
theorem dX6_paysOwing_11 : decode cX6_paysOwing 11 = .ok (.if_icmp .ge 47, 3) := by decide +kernel
theorem dX6_paysOwing_14 : decode cX6_paysOwing 14 = .ok (.iload 4, 2) := by decide +kernel
theorem dX6_paysOwing_16 : decode cX6_paysOwing 16 = .ok (.iload_n 1, 1) := by decide +kernel
theorem dX6_paysOwing_17 : decode cX6_paysOwing 17 = .ok (.iload_n 2, 1) := by decide +kernel
theorem dX6_paysOwing_18 : decode cX6_paysOwing 18 = .ok (.invokestatic 98, 3) := by decide +kernel
theorem dX6_paysOwing_21 : decode cX6_paysOwing 21 = .ok (.ifCond .ne 31, 3) := by decide +kernel
theorem dX6_paysOwing_24 : decode cX6_paysOwing 24 = .ok (.aload_n 0, 1) := by decide +kernel
theorem dX6_paysOwing_25 : decode cX6_paysOwing 25 = .ok (.getfield 7, 3) := by decide +kernel
theorem dX6_paysOwing_28 : decode cX6_paysOwing 28 = .ok (.bipush 96, 2) := by decide +kernel
theorem dX6_paysOwing_30 : decode cX6_paysOwing 30 = .ok (.iload 4, 2) := by decide +kernel
theorem dX6_paysOwing_32 : decode cX6_paysOwing 32 = .ok (.iadd, 1) := by decide +kernel
theorem dX6_paysOwing_33 : decode cX6_paysOwing 33 = .ok (.iaload, 1) := by decide +kernel
theorem dX6_paysOwing_34 : decode cX6_paysOwing 34 = .ok (.iload_n 1, 1) := by decide +kernel
theorem dX6_paysOwing_35 : decode cX6_paysOwing 35 = .ok (.iload_n 2, 1) := by decide +kernel
theorem dX6_paysOwing_36 : decode cX6_paysOwing 36 = .ok (.invokestatic 98, 3) := by decide +kernel
theorem dX6_paysOwing_39 : decode cX6_paysOwing 39 = .ok (.ifCond .eq 13, 3) := by decide +kernel
theorem dX6_paysOwing_42 : decode cX6_paysOwing 42 = .ok (.aload_n 0, 1) := by decide +kernel
theorem dX6_paysOwing_43 : decode cX6_paysOwing 43 = .ok (.iload 4, 2) := by decide +kernel
theorem dX6_paysOwing_45 : decode cX6_paysOwing 45 = .ok (.iconst 2, 1) := by decide +kernel
theorem dX6_paysOwing_46 : decode cX6_paysOwing 46 = .ok (.invokevirtual 282, 3) := by decide +kernel
theorem dX6_paysOwing_49 : decode cX6_paysOwing 49 = .ok (.iinc 3 1, 3) := by decide +kernel
theorem dX6_paysOwing_52 : decode cX6_paysOwing 52 = .ok (.iinc 4 1, 3) := by decide +kernel
theorem dX6_paysOwing_55 : decode cX6_paysOwing 55 = .ok (.goto (-50), 3) := by decide +kernel
theorem dX6_paysOwing_58 : decode cX6_paysOwing 58 = .ok (.iload_n 3, 1) := by decide +kernel
theorem dX6_paysOwing_59 : decode cX6_paysOwing 59 = .ok (.ireturn, 1) := by decide +kernel
theorem dX6_paysToLimit_0 : decode cX6_paysToLimit 0 = .ok (.aload_n 0, 1) := by decide +kernel
theorem dX6_paysToLimit_1 : decode cX6_paysToLimit 1 = .ok (.invokevirtual 236, 3) := by decide +kernel
theorem dX6_paysToLimit_4 : decode cX6_paysToLimit 4 = .ok (.istore_n 1, 1) := by decide +kernel
theorem dX6_paysToLimit_5 : decode cX6_paysToLimit 5 = .ok (.iload_n 1, 1) := by decide +kernel
theorem dX6_paysToLimit_6 : decode cX6_paysToLimit 6 = .ok (.aload_n 0, 1) := by decide +kernel
theorem dX6_paysToLimit_7 : decode cX6_paysToLimit 7 = .ok (.getfield 7, 3) := by decide +kernel
theorem dX6_paysToLimit_10 : decode cX6_paysToLimit 10 = .ok (.sipush 385, 3) := by decide +kernel
theorem dX6_paysToLimit_13 : decode cX6_paysToLimit 13 = .ok (.iaload, 1) := by decide +kernel
theorem dX6_paysToLimit_14 : decode cX6_paysToLimit 14 = .ok (.if_icmp .le 18, 3) := by decide +kernel
theorem dX6_paysToLimit_17 : decode cX6_paysToLimit 17 = .ok (.aload_n 0, 1) := by decide +kernel
theorem dX6_paysToLimit_18 : decode cX6_paysToLimit 18 = .ok (.aload_n 0, 1) := by decide +kernel
theorem dX6_paysToLimit_19 : decode cX6_paysToLimit 19 = .ok (.invokevirtual 260, 3) := by decide +kernel
theorem dX6_paysToLimit_22 : decode cX6_paysToLimit 22 = .ok (.iconst 2, 1) := by decide +kernel
theorem dX6_paysToLimit_23 : decode cX6_paysToLimit 23 = .ok (.invokevirtual 282, 3) := by decide +kernel
theorem dX6_paysToLimit_26 : decode cX6_paysToLimit 26 = .ok (.iinc 1 (-1), 3) := by decide +kernel
theorem dX6_paysToLimit_29 : decode cX6_paysToLimit 29 = .ok (.goto (-24), 3) := by decide +kernel
theorem dX6_paysToLimit_32 : decode cX6_paysToLimit 32 = .ok (.return_, 1) := by decide +kernel
theorem dX6_whyNot_0 : decode cX6_whyNot 0 = .ok (.iload_n 3, 1) := by decide +kernel
theorem dX6_whyNot_1 : decode cX6_whyNot 1 = .ok (.iconst 1, 1) := by decide +kernel
theorem dX6_whyNot_2 : decode cX6_whyNot 2 = .ok (.if_icmp .ge 5, 3) := by decide +kernel
theorem dX6_whyNot_5 : decode cX6_whyNot 5 = .ok (.iconst 1, 1) := by decide +kernel
theorem dX6_whyNot_6 : decode cX6_whyNot 6 = .ok (.ireturn, 1) := by decide +kernel
theorem dX6_whyNot_7 : decode cX6_whyNot 7 = .ok (.iload_n 3, 1) := by decide +kernel
theorem dX6_whyNot_8 : decode cX6_whyNot 8 = .ok (.aload_n 0, 1) := by decide +kernel
theorem dX6_whyNot_9 : decode cX6_whyNot 9 = .ok (.getfield 126, 3) := by decide +kernel
theorem dX6_whyNot_12 : decode cX6_whyNot 12 = .ok (.if_icmp .gt 31, 3) := by decide +kernel
theorem dX6_whyNot_15 : decode cX6_whyNot 15 = .ok (.iload_n 1, 1) := by decide +kernel
theorem dX6_whyNot_16 : decode cX6_whyNot 16 = .ok (.iconst 0, 1) := by decide +kernel
theorem dX6_whyNot_17 : decode cX6_whyNot 17 = .ok (.aload_n 0, 1) := by decide +kernel
theorem dX6_whyNot_18 : decode cX6_whyNot 18 = .ok (.getfield 126, 3) := by decide +kernel
theorem dX6_whyNot_21 : decode cX6_whyNot 21 = .ok (.iload_n 3, 1) := by decide +kernel
theorem dX6_whyNot_22 : decode cX6_whyNot 22 = .ok (.isub, 1) := by decide +kernel
theorem dX6_whyNot_23 : decode cX6_whyNot 23 = .ok (.invokestatic 98, 3) := by decide +kernel
theorem dX6_whyNot_26 : decode cX6_whyNot 26 = .ok (.ifCond .eq 17, 3) := by decide +kernel
theorem dX6_whyNot_29 : decode cX6_whyNot 29 = .ok (.iload_n 2, 1) := by decide +kernel
theorem dX6_whyNot_30 : decode cX6_whyNot 30 = .ok (.iconst 0, 1) := by decide +kernel
theorem dX6_whyNot_31 : decode cX6_whyNot 31 = .ok (.aload_n 0, 1) := by decide +kernel
theorem dX6_whyNot_32 : decode cX6_whyNot 32 = .ok (.getfield 126, 3) := by decide +kernel
theorem dX6_whyNot_35 : decode cX6_whyNot 35 = .ok (.iload_n 3, 1) := by decide +kernel
theorem dX6_whyNot_36 : decode cX6_whyNot 36 = .ok (.isub, 1) := by decide +kernel
theorem dX6_whyNot_37 : decode cX6_whyNot 37 = .ok (.invokestatic 98, 3) := by decide +kernel
theorem dX6_whyNot_40 : decode cX6_whyNot 40 = .ok (.ifCond .ne 5, 3) := by decide +kernel
theorem dX6_whyNot_43 : decode cX6_whyNot 43 = .ok (.iconst 2, 1) := by decide +kernel
theorem dX6_whyNot_44 : decode cX6_whyNot 44 = .ok (.ireturn, 1) := by decide +kernel
theorem dX6_whyNot_45 : decode cX6_whyNot 45 = .ok (.iconst 0, 1) := by decide +kernel
theorem dX6_whyNot_46 : decode cX6_whyNot 46 = .ok (.istore 4, 2) := by decide +kernel
theorem dX6_whyNot_48 : decode cX6_whyNot 48 = .ok (.iload 4, 2) := by decide +kernel
theorem dX6_whyNot_50 : decode cX6_whyNot 50 = .ok (.iload_n 3, 1) := by decide +kernel
theorem dX6_whyNot_51 : decode cX6_whyNot 51 = .ok (.if_icmp .ge 28, 3) := by decide +kernel
theorem dX6_whyNot_54 : decode cX6_whyNot 54 = .ok (.aload_n 0, 1) := by decide +kernel
theorem dX6_whyNot_55 : decode cX6_whyNot 55 = .ok (.getfield 7, 3) := by decide +kernel
theorem dX6_whyNot_58 : decode cX6_whyNot 58 = .ok (.sipush 288, 3) := by decide +kernel
theorem dX6_whyNot_61 : decode cX6_whyNot 61 = .ok (.iload_n 2, 1) := by decide +kernel
theorem dX6_whyNot_62 : decode cX6_whyNot 62 = .ok (.iadd, 1) := by decide +kernel
theorem dX6_whyNot_63 : decode cX6_whyNot 63 = .ok (.iload 4, 2) := by decide +kernel
theorem dX6_whyNot_65 : decode cX6_whyNot 65 = .ok (.iadd, 1) := by decide +kernel
theorem dX6_whyNot_66 : decode cX6_whyNot 66 = .ok (.iaload, 1) := by decide +kernel
theorem dX6_whyNot_67 : decode cX6_whyNot 67 = .ok (.iconst 1, 1) := by decide +kernel
theorem dX6_whyNot_68 : decode cX6_whyNot 68 = .ok (.if_icmp .ne 5, 3) := by decide +kernel
theorem dX6_whyNot_71 : decode cX6_whyNot 71 = .ok (.iconst 3, 1) := by decide +kernel
theorem dX6_whyNot_72 : decode cX6_whyNot 72 = .ok (.ireturn, 1) := by decide +kernel
theorem dX6_whyNot_73 : decode cX6_whyNot 73 = .ok (.iinc 4 1, 3) := by decide +kernel
theorem dX6_whyNot_76 : decode cX6_whyNot 76 = .ok (.goto (-28), 3) := by decide +kernel
theorem dX6_whyNot_79 : decode cX6_whyNot 79 = .ok (.iconst 0, 1) := by decide +kernel
theorem dX6_whyNot_80 : decode cX6_whyNot 80 = .ok (.ireturn, 1) := by decide +kernel
theorem dX6_copies_0 : decode cX6_copies 0 = .ok (.aload_n 0, 1) := by decide +kernel
theorem dX6_copies_1 : decode cX6_copies 1 = .ok (.getfield 7, 3) := by decide +kernel
theorem dX6_copies_4 : decode cX6_copies 4 = .ok (.sipush 389, 3) := by decide +kernel
theorem dX6_copies_7 : decode cX6_copies 7 = .ok (.iaload, 1) := by decide +kernel
theorem dX6_copies_8 : decode cX6_copies 8 = .ok (.istore 4, 2) := by decide +kernel
theorem dX6_copies_10 : decode cX6_copies 10 = .ok (.iload_n 2, 1) := by decide +kernel
theorem dX6_copies_11 : decode cX6_copies 11 = .ok (.iload_n 3, 1) := by decide +kernel
theorem dX6_copies_12 : decode cX6_copies 12 = .ok (.iadd, 1) := by decide +kernel
theorem dX6_copies_13 : decode cX6_copies 13 = .ok (.iconst 1, 1) := by decide +kernel
theorem dX6_copies_14 : decode cX6_copies 14 = .ok (.isub, 1) := by decide +kernel
theorem dX6_copies_15 : decode cX6_copies 15 = .ok (.istore 5, 2) := by decide +kernel
theorem dX6_copies_17 : decode cX6_copies 17 = .ok (.aload_n 0, 1) := by decide +kernel
theorem dX6_copies_18 : decode cX6_copies 18 = .ok (.getfield 7, 3) := by decide +kernel
theorem dX6_copies_21 : decode cX6_copies 21 = .ok (.sipush 389, 3) := by decide +kernel
theorem dX6_copies_24 : decode cX6_copies 24 = .ok (.dup2, 1) := by decide +kernel
theorem dX6_copies_25 : decode cX6_copies 25 = .ok (.iaload, 1) := by decide +kernel
theorem dX6_copies_26 : decode cX6_copies 26 = .ok (.iconst 1, 1) := by decide +kernel
theorem dX6_copies_27 : decode cX6_copies 27 = .ok (.iadd, 1) := by decide +kernel
theorem dX6_copies_28 : decode cX6_copies 28 = .ok (.iastore, 1) := by decide +kernel
theorem dX6_copies_29 : decode cX6_copies 29 = .ok (.aload_n 0, 1) := by decide +kernel
theorem dX6_copies_30 : decode cX6_copies 30 = .ok (.getfield 7, 3) := by decide +kernel
theorem dX6_copies_33 : decode cX6_copies 33 = .ok (.sipush 390, 3) := by decide +kernel
theorem dX6_copies_36 : decode cX6_copies 36 = .ok (.dup2, 1) := by decide +kernel
theorem dX6_copies_37 : decode cX6_copies 37 = .ok (.iaload, 1) := by decide +kernel
theorem dX6_copies_38 : decode cX6_copies 38 = .ok (.iconst 1, 1) := by decide +kernel
theorem dX6_copies_39 : decode cX6_copies 39 = .ok (.iadd, 1) := by decide +kernel
theorem dX6_copies_40 : decode cX6_copies 40 = .ok (.iastore, 1) := by decide +kernel
theorem dX6_copies_41 : decode cX6_copies 41 = .ok (.aload_n 0, 1) := by decide +kernel
theorem dX6_copies_42 : decode cX6_copies 42 = .ok (.getfield 7, 3) := by decide +kernel
theorem dX6_copies_45 : decode cX6_copies 45 = .ok (.sipush 391, 3) := by decide +kernel
theorem dX6_copies_48 : decode cX6_copies 48 = .ok (.dup2, 1) := by decide +kernel
theorem dX6_copies_49 : decode cX6_copies 49 = .ok (.iaload, 1) := by decide +kernel
theorem dX6_copies_50 : decode cX6_copies 50 = .ok (.iload_n 3, 1) := by decide +kernel
theorem dX6_copies_51 : decode cX6_copies 51 = .ok (.iadd, 1) := by decide +kernel
theorem dX6_copies_52 : decode cX6_copies 52 = .ok (.iastore, 1) := by decide +kernel
theorem dX6_copies_53 : decode cX6_copies 53 = .ok (.aload_n 0, 1) := by decide +kernel
theorem dX6_copies_54 : decode cX6_copies 54 = .ok (.iconst 0, 1) := by decide +kernel
theorem dX6_copies_55 : decode cX6_copies 55 = .ok (.iload_n 2, 1) := by decide +kernel
theorem dX6_copies_56 : decode cX6_copies 56 = .ok (.iload_n 3, 1) := by decide +kernel
theorem dX6_copies_57 : decode cX6_copies 57 = .ok (.invokevirtual 272, 3) := by decide +kernel
theorem dX6_copies_60 : decode cX6_copies 60 = .ok (.iconst 0, 1) := by decide +kernel
theorem dX6_copies_61 : decode cX6_copies 61 = .ok (.istore 6, 2) := by decide +kernel
theorem dX6_copies_63 : decode cX6_copies 63 = .ok (.iload 6, 2) := by decide +kernel
theorem dX6_copies_65 : decode cX6_copies 65 = .ok (.iload_n 3, 1) := by decide +kernel
theorem dX6_copies_66 : decode cX6_copies 66 = .ok (.if_icmp .ge 24, 3) := by decide +kernel
theorem dX6_copies_69 : decode cX6_copies 69 = .ok (.aload_n 0, 1) := by decide +kernel
theorem dX6_copies_70 : decode cX6_copies 70 = .ok (.getfield 27, 3) := by decide +kernel
theorem dX6_copies_73 : decode cX6_copies 73 = .ok (.iload 6, 2) := by decide +kernel
theorem dX6_copies_75 : decode cX6_copies 75 = .ok (.aload_n 0, 1) := by decide +kernel
theorem dX6_copies_76 : decode cX6_copies 76 = .ok (.iload_n 1, 1) := by decide +kernel
theorem dX6_copies_77 : decode cX6_copies 77 = .ok (.iload 6, 2) := by decide +kernel
theorem dX6_copies_79 : decode cX6_copies 79 = .ok (.iadd, 1) := by decide +kernel
theorem dX6_copies_80 : decode cX6_copies 80 = .ok (.invokevirtual 226, 3) := by decide +kernel
theorem dX6_copies_83 : decode cX6_copies 83 = .ok (.iastore, 1) := by decide +kernel
theorem dX6_copies_84 : decode cX6_copies 84 = .ok (.iinc 6 1, 3) := by decide +kernel
theorem dX6_copies_87 : decode cX6_copies 87 = .ok (.goto (-24), 3) := by decide +kernel
theorem dX6_copies_90 : decode cX6_copies 90 = .ok (.aload_n 0, 1) := by decide +kernel
theorem dX6_copies_91 : decode cX6_copies 91 = .ok (.iload_n 2, 1) := by decide +kernel
theorem dX6_copies_92 : decode cX6_copies 92 = .ok (.iload 5, 2) := by decide +kernel
theorem dX6_copies_94 : decode cX6_copies 94 = .ok (.invokevirtual 285, 3) := by decide +kernel
theorem dX6_copies_97 : decode cX6_copies 97 = .ok (.istore 6, 2) := by decide +kernel
theorem dX6_copies_99 : decode cX6_copies 99 = .ok (.iload_n 2, 1) := by decide +kernel
theorem dX6_copies_100 : decode cX6_copies 100 = .ok (.istore 7, 2) := by decide +kernel
theorem dX6_copies_102 : decode cX6_copies 102 = .ok (.iload 7, 2) := by decide +kernel
theorem dX6_copies_104 : decode cX6_copies 104 = .ok (.iload 5, 2) := by decide +kernel
theorem dX6_copies_106 : decode cX6_copies 106 = .ok (.if_icmp .gt 15, 3) := by decide +kernel
theorem dX6_copies_109 : decode cX6_copies 109 = .ok (.aload_n 0, 1) := by decide +kernel
theorem dX6_copies_110 : decode cX6_copies 110 = .ok (.iload 7, 2) := by decide +kernel
theorem dX6_copies_112 : decode cX6_copies 112 = .ok (.invokevirtual 288, 3) := by decide +kernel
theorem dX6_copies_115 : decode cX6_copies 115 = .ok (.iinc 7 1, 3) := by decide +kernel
theorem dX6_copies_118 : decode cX6_copies 118 = .ok (.goto (-16), 3) := by decide +kernel
theorem dX6_copies_121 : decode cX6_copies 121 = .ok (.iconst 0, 1) := by decide +kernel
theorem dX6_copies_122 : decode cX6_copies 122 = .ok (.istore 7, 2) := by decide +kernel
theorem dX6_copies_124 : decode cX6_copies 124 = .ok (.iload 7, 2) := by decide +kernel
theorem dX6_copies_126 : decode cX6_copies 126 = .ok (.iload_n 3, 1) := by decide +kernel
theorem dX6_copies_127 : decode cX6_copies 127 = .ok (.if_icmp .ge 49, 3) := by decide +kernel
theorem dX6_copies_130 : decode cX6_copies 130 = .ok (.iload_n 1, 1) := by decide +kernel
theorem dX6_copies_131 : decode cX6_copies 131 = .ok (.iload 7, 2) := by decide +kernel
theorem dX6_copies_133 : decode cX6_copies 133 = .ok (.iadd, 1) := by decide +kernel
theorem dX6_copies_134 : decode cX6_copies 134 = .ok (.iload_n 2, 1) := by decide +kernel
theorem dX6_copies_135 : decode cX6_copies 135 = .ok (.iload 5, 2) := by decide +kernel
theorem dX6_copies_137 : decode cX6_copies 137 = .ok (.invokestatic 98, 3) := by decide +kernel
theorem dX6_copies_140 : decode cX6_copies 140 = .ok (.ifCond .eq 30, 3) := by decide +kernel
theorem dX6_copies_143 : decode cX6_copies 143 = .ok (.aload_n 0, 1) := by decide +kernel
theorem dX6_copies_144 : decode cX6_copies 144 = .ok (.getfield 7, 3) := by decide +kernel
theorem dX6_copies_147 : decode cX6_copies 147 = .ok (.iconst 0, 1) := by decide +kernel
theorem dX6_copies_148 : decode cX6_copies 148 = .ok (.iload_n 2, 1) := by decide +kernel
theorem dX6_copies_149 : decode cX6_copies 149 = .ok (.iadd, 1) := by decide +kernel
theorem dX6_copies_150 : decode cX6_copies 150 = .ok (.iload 7, 2) := by decide +kernel
theorem dX6_copies_152 : decode cX6_copies 152 = .ok (.iadd, 1) := by decide +kernel
theorem dX6_copies_153 : decode cX6_copies 153 = .ok (.aload_n 0, 1) := by decide +kernel
theorem dX6_copies_154 : decode cX6_copies 154 = .ok (.getfield 27, 3) := by decide +kernel
theorem dX6_copies_157 : decode cX6_copies 157 = .ok (.iload 7, 2) := by decide +kernel
theorem dX6_copies_159 : decode cX6_copies 159 = .ok (.iaload, 1) := by decide +kernel
theorem dX6_copies_160 : decode cX6_copies 160 = .ok (.iastore, 1) := by decide +kernel
theorem dX6_copies_161 : decode cX6_copies 161 = .ok (.aload_n 0, 1) := by decide +kernel
theorem dX6_copies_162 : decode cX6_copies 162 = .ok (.iconst 3, 1) := by decide +kernel
theorem dX6_copies_163 : decode cX6_copies 163 = .ok (.iload_n 2, 1) := by decide +kernel
theorem dX6_copies_164 : decode cX6_copies 164 = .ok (.iload 7, 2) := by decide +kernel
theorem dX6_copies_166 : decode cX6_copies 166 = .ok (.iadd, 1) := by decide +kernel
theorem dX6_copies_167 : decode cX6_copies 167 = .ok (.invokevirtual 278, 3) := by decide +kernel
theorem dX6_copies_170 : decode cX6_copies 170 = .ok (.iinc 7 1, 3) := by decide +kernel
theorem dX6_copies_173 : decode cX6_copies 173 = .ok (.goto (-49), 3) := by decide +kernel
theorem dX6_copies_176 : decode cX6_copies 176 = .ok (.iconst 0, 1) := by decide +kernel
theorem dX6_copies_177 : decode cX6_copies 177 = .ok (.istore 7, 2) := by decide +kernel
theorem dX6_copies_179 : decode cX6_copies 179 = .ok (.iload 7, 2) := by decide +kernel
theorem dX6_copies_181 : decode cX6_copies 181 = .ok (.iload_n 3, 1) := by decide +kernel
theorem dX6_copies_182 : decode cX6_copies 182 = .ok (.if_icmp .ge 76, 3) := by decide +kernel
theorem dX6_copies_185 : decode cX6_copies 185 = .ok (.iload_n 1, 1) := by decide +kernel
theorem dX6_copies_186 : decode cX6_copies 186 = .ok (.iload 7, 2) := by decide +kernel
theorem dX6_copies_188 : decode cX6_copies 188 = .ok (.iadd, 1) := by decide +kernel
theorem dX6_copies_189 : decode cX6_copies 189 = .ok (.iload_n 2, 1) := by decide +kernel
theorem dX6_copies_190 : decode cX6_copies 190 = .ok (.iload 5, 2) := by decide +kernel
theorem dX6_copies_192 : decode cX6_copies 192 = .ok (.invokestatic 98, 3) := by decide +kernel
theorem dX6_copies_195 : decode cX6_copies 195 = .ok (.ifCond .ne 57, 3) := by decide +kernel
theorem dX6_copies_198 : decode cX6_copies 198 = .ok (.aload_n 0, 1) := by decide +kernel
theorem dX6_copies_199 : decode cX6_copies 199 = .ok (.getfield 7, 3) := by decide +kernel
theorem dX6_copies_202 : decode cX6_copies 202 = .ok (.bipush 96, 2) := by decide +kernel
theorem dX6_copies_204 : decode cX6_copies 204 = .ok (.iload_n 2, 1) := by decide +kernel
theorem dX6_copies_205 : decode cX6_copies 205 = .ok (.iadd, 1) := by decide +kernel
theorem dX6_copies_206 : decode cX6_copies 206 = .ok (.iload 7, 2) := by decide +kernel
theorem dX6_copies_208 : decode cX6_copies 208 = .ok (.iadd, 1) := by decide +kernel
theorem dX6_copies_209 : decode cX6_copies 209 = .ok (.aload_n 0, 1) := by decide +kernel
theorem dX6_copies_210 : decode cX6_copies 210 = .ok (.getfield 7, 3) := by decide +kernel
theorem dX6_copies_213 : decode cX6_copies 213 = .ok (.sipush 387, 3) := by decide +kernel
theorem dX6_copies_216 : decode cX6_copies 216 = .ok (.iaload, 1) := by decide +kernel
theorem dX6_copies_217 : decode cX6_copies 217 = .ok (.iconst 1, 1) := by decide +kernel
theorem dX6_copies_218 : decode cX6_copies 218 = .ok (.if_icmp .ne 14, 3) := by decide +kernel
theorem dX6_copies_221 : decode cX6_copies 221 = .ok (.aload_n 0, 1) := by decide +kernel
theorem dX6_copies_222 : decode cX6_copies 222 = .ok (.iload_n 1, 1) := by decide +kernel
theorem dX6_copies_223 : decode cX6_copies 223 = .ok (.iload 7, 2) := by decide +kernel
theorem dX6_copies_225 : decode cX6_copies 225 = .ok (.iadd, 1) := by decide +kernel
theorem dX6_copies_226 : decode cX6_copies 226 = .ok (.invokevirtual 220, 3) := by decide +kernel
theorem dX6_copies_229 : decode cX6_copies 229 = .ok (.goto 7, 3) := by decide +kernel
theorem dX6_copies_232 : decode cX6_copies 232 = .ok (.iload_n 1, 1) := by decide +kernel
theorem dX6_copies_233 : decode cX6_copies 233 = .ok (.iload 7, 2) := by decide +kernel
theorem dX6_copies_235 : decode cX6_copies 235 = .ok (.iadd, 1) := by decide +kernel
theorem dX6_copies_236 : decode cX6_copies 236 = .ok (.iastore, 1) := by decide +kernel
theorem dX6_copies_237 : decode cX6_copies 237 = .ok (.aload_n 0, 1) := by decide +kernel
theorem dX6_copies_238 : decode cX6_copies 238 = .ok (.getfield 7, 3) := by decide +kernel
theorem dX6_copies_241 : decode cX6_copies 241 = .ok (.sipush 192, 3) := by decide +kernel
theorem dX6_copies_244 : decode cX6_copies 244 = .ok (.iload_n 2, 1) := by decide +kernel
theorem dX6_copies_245 : decode cX6_copies 245 = .ok (.iadd, 1) := by decide +kernel
theorem dX6_copies_246 : decode cX6_copies 246 = .ok (.iload 7, 2) := by decide +kernel
theorem dX6_copies_248 : decode cX6_copies 248 = .ok (.iadd, 1) := by decide +kernel
theorem dX6_copies_249 : decode cX6_copies 249 = .ok (.iload 4, 2) := by decide +kernel
theorem dX6_copies_251 : decode cX6_copies 251 = .ok (.iastore, 1) := by decide +kernel
theorem dX6_copies_252 : decode cX6_copies 252 = .ok (.iinc 7 1, 3) := by decide +kernel
theorem dX6_copies_255 : decode cX6_copies 255 = .ok (.goto (-76), 3) := by decide +kernel
theorem dX6_copies_258 : decode cX6_copies 258 = .ok (.aload_n 0, 1) := by decide +kernel
theorem dX6_copies_259 : decode cX6_copies 259 = .ok (.invokevirtual 291, 3) := by decide +kernel
theorem dX6_copies_262 : decode cX6_copies 262 = .ok (.return_, 1) := by decide +kernel
theorem dX6_fills_0 : decode cX6_fills 0 = .ok (.aload_n 0, 1) := by decide +kernel
theorem dX6_fills_1 : decode cX6_fills 1 = .ok (.iload_n 1, 1) := by decide +kernel
theorem dX6_fills_2 : decode cX6_fills 2 = .ok (.iload_n 2, 1) := by decide +kernel
theorem dX6_fills_3 : decode cX6_fills 3 = .ok (.invokevirtual 285, 3) := by decide +kernel
theorem dX6_fills_6 : decode cX6_fills 6 = .ok (.istore 4, 2) := by decide +kernel
theorem dX6_fills_8 : decode cX6_fills 8 = .ok (.iload_n 1, 1) := by decide +kernel
theorem dX6_fills_9 : decode cX6_fills 9 = .ok (.istore 5, 2) := by decide +kernel
theorem dX6_fills_11 : decode cX6_fills 11 = .ok (.iload 5, 2) := by decide +kernel
theorem dX6_fills_13 : decode cX6_fills 13 = .ok (.iload_n 2, 1) := by decide +kernel
theorem dX6_fills_14 : decode cX6_fills 14 = .ok (.if_icmp .gt 25, 3) := by decide +kernel
theorem dX6_fills_17 : decode cX6_fills 17 = .ok (.aload_n 0, 1) := by decide +kernel
theorem dX6_fills_18 : decode cX6_fills 18 = .ok (.iload 5, 2) := by decide +kernel
theorem dX6_fills_20 : decode cX6_fills 20 = .ok (.invokevirtual 288, 3) := by decide +kernel
theorem dX6_fills_23 : decode cX6_fills 23 = .ok (.aload_n 0, 1) := by decide +kernel
theorem dX6_fills_24 : decode cX6_fills 24 = .ok (.getfield 7, 3) := by decide +kernel
theorem dX6_fills_27 : decode cX6_fills 27 = .ok (.iconst 0, 1) := by decide +kernel
theorem dX6_fills_28 : decode cX6_fills 28 = .ok (.iload 5, 2) := by decide +kernel
theorem dX6_fills_30 : decode cX6_fills 30 = .ok (.iadd, 1) := by decide +kernel
theorem dX6_fills_31 : decode cX6_fills 31 = .ok (.iload_n 3, 1) := by decide +kernel
theorem dX6_fills_32 : decode cX6_fills 32 = .ok (.iastore, 1) := by decide +kernel
theorem dX6_fills_33 : decode cX6_fills 33 = .ok (.iinc 5 1, 3) := by decide +kernel
theorem dX6_fills_36 : decode cX6_fills 36 = .ok (.goto (-25), 3) := by decide +kernel
theorem dX6_fills_39 : decode cX6_fills 39 = .ok (.iload 4, 2) := by decide +kernel
theorem dX6_fills_41 : decode cX6_fills 41 = .ok (.ireturn, 1) := by decide +kernel
theorem dX6_anyLocked_0 : decode cX6_anyLocked 0 = .ok (.iload_n 1, 1) := by decide +kernel
theorem dX6_anyLocked_1 : decode cX6_anyLocked 1 = .ok (.istore_n 3, 1) := by decide +kernel
theorem dX6_anyLocked_2 : decode cX6_anyLocked 2 = .ok (.iload_n 3, 1) := by decide +kernel
theorem dX6_anyLocked_3 : decode cX6_anyLocked 3 = .ok (.iload_n 2, 1) := by decide +kernel
theorem dX6_anyLocked_4 : decode cX6_anyLocked 4 = .ok (.if_icmp .gt 25, 3) := by decide +kernel
theorem dX6_anyLocked_7 : decode cX6_anyLocked 7 = .ok (.aload_n 0, 1) := by decide +kernel
theorem dX6_anyLocked_8 : decode cX6_anyLocked 8 = .ok (.getfield 7, 3) := by decide +kernel
theorem dX6_anyLocked_11 : decode cX6_anyLocked 11 = .ok (.sipush 288, 3) := by decide +kernel
theorem dX6_anyLocked_14 : decode cX6_anyLocked 14 = .ok (.iload_n 3, 1) := by decide +kernel
theorem dX6_anyLocked_15 : decode cX6_anyLocked 15 = .ok (.iadd, 1) := by decide +kernel
theorem dX6_anyLocked_16 : decode cX6_anyLocked 16 = .ok (.iaload, 1) := by decide +kernel
theorem dX6_anyLocked_17 : decode cX6_anyLocked 17 = .ok (.iconst 1, 1) := by decide +kernel
theorem dX6_anyLocked_18 : decode cX6_anyLocked 18 = .ok (.if_icmp .ne 5, 3) := by decide +kernel
theorem dX6_anyLocked_21 : decode cX6_anyLocked 21 = .ok (.iconst 1, 1) := by decide +kernel
theorem dX6_anyLocked_22 : decode cX6_anyLocked 22 = .ok (.ireturn, 1) := by decide +kernel
theorem dX6_anyLocked_23 : decode cX6_anyLocked 23 = .ok (.iinc 3 1, 3) := by decide +kernel
theorem dX6_anyLocked_26 : decode cX6_anyLocked 26 = .ok (.goto (-24), 3) := by decide +kernel
theorem dX6_anyLocked_29 : decode cX6_anyLocked 29 = .ok (.iconst 0, 1) := by decide +kernel
theorem dX6_anyLocked_30 : decode cX6_anyLocked 30 = .ok (.ireturn, 1) := by decide +kernel
theorem dX6_firstLeft_0 : decode cX6_firstLeft 0 = .ok (.iload_n 1, 1) := by decide +kernel
theorem dX6_firstLeft_1 : decode cX6_firstLeft 1 = .ok (.iload_n 0, 1) := by decide +kernel
theorem dX6_firstLeft_2 : decode cX6_firstLeft 2 = .ok (.if_icmp .gt 13, 3) := by decide +kernel
theorem dX6_firstLeft_5 : decode cX6_firstLeft 5 = .ok (.iload_n 0, 1) := by decide +kernel
theorem dX6_firstLeft_6 : decode cX6_firstLeft 6 = .ok (.iload_n 1, 1) := by decide +kernel
theorem dX6_firstLeft_7 : decode cX6_firstLeft 7 = .ok (.iload_n 2, 1) := by decide +kernel
theorem dX6_firstLeft_8 : decode cX6_firstLeft 8 = .ok (.iadd, 1) := by decide +kernel
theorem dX6_firstLeft_9 : decode cX6_firstLeft 9 = .ok (.invokestatic 263, 3) := by decide +kernel
theorem dX6_firstLeft_12 : decode cX6_firstLeft 12 = .ok (.goto 4, 3) := by decide +kernel
theorem dX6_firstLeft_15 : decode cX6_firstLeft 15 = .ok (.iload_n 0, 1) := by decide +kernel
theorem dX6_firstLeft_16 : decode cX6_firstLeft 16 = .ok (.ireturn, 1) := by decide +kernel
theorem dX6_lastLeft_0 : decode cX6_lastLeft 0 = .ok (.iload_n 1, 1) := by decide +kernel
theorem dX6_lastLeft_1 : decode cX6_lastLeft 1 = .ok (.iload_n 0, 1) := by decide +kernel
theorem dX6_lastLeft_2 : decode cX6_lastLeft 2 = .ok (.if_icmp .le 15, 3) := by decide +kernel
theorem dX6_lastLeft_5 : decode cX6_lastLeft 5 = .ok (.iload_n 0, 1) := by decide +kernel
theorem dX6_lastLeft_6 : decode cX6_lastLeft 6 = .ok (.iload_n 2, 1) := by decide +kernel
theorem dX6_lastLeft_7 : decode cX6_lastLeft 7 = .ok (.iadd, 1) := by decide +kernel
theorem dX6_lastLeft_8 : decode cX6_lastLeft 8 = .ok (.iload_n 1, 1) := by decide +kernel
theorem dX6_lastLeft_9 : decode cX6_lastLeft 9 = .ok (.invokestatic 294, 3) := by decide +kernel
theorem dX6_lastLeft_12 : decode cX6_lastLeft 12 = .ok (.iconst 1, 1) := by decide +kernel
theorem dX6_lastLeft_13 : decode cX6_lastLeft 13 = .ok (.isub, 1) := by decide +kernel
theorem dX6_lastLeft_14 : decode cX6_lastLeft 14 = .ok (.goto 8, 3) := by decide +kernel
theorem dX6_lastLeft_17 : decode cX6_lastLeft 17 = .ok (.iload_n 0, 1) := by decide +kernel
theorem dX6_lastLeft_18 : decode cX6_lastLeft 18 = .ok (.iload_n 2, 1) := by decide +kernel
theorem dX6_lastLeft_19 : decode cX6_lastLeft 19 = .ok (.iadd, 1) := by decide +kernel
theorem dX6_lastLeft_20 : decode cX6_lastLeft 20 = .ok (.iconst 1, 1) := by decide +kernel
theorem dX6_lastLeft_21 : decode cX6_lastLeft 21 = .ok (.isub, 1) := by decide +kernel
theorem dX6_lastLeft_22 : decode cX6_lastLeft 22 = .ok (.ireturn, 1) := by decide +kernel
theorem dX6_swaps_0 : decode cX6_swaps 0 = .ok (.aload_n 0, 1) := by decide +kernel
theorem dX6_swaps_1 : decode cX6_swaps 1 = .ok (.iload_n 1, 1) := by decide +kernel
theorem dX6_swaps_2 : decode cX6_swaps 2 = .ok (.invokevirtual 226, 3) := by decide +kernel
theorem dX6_swaps_5 : decode cX6_swaps 5 = .ok (.istore_n 3, 1) := by decide +kernel
theorem dX6_swaps_6 : decode cX6_swaps 6 = .ok (.aload_n 0, 1) := by decide +kernel
theorem dX6_swaps_7 : decode cX6_swaps 7 = .ok (.iload_n 2, 1) := by decide +kernel
theorem dX6_swaps_8 : decode cX6_swaps 8 = .ok (.invokevirtual 226, 3) := by decide +kernel
theorem dX6_swaps_11 : decode cX6_swaps 11 = .ok (.istore 4, 2) := by decide +kernel
theorem dX6_swaps_13 : decode cX6_swaps 13 = .ok (.iconst 0, 1) := by decide +kernel
theorem dX6_swaps_14 : decode cX6_swaps 14 = .ok (.istore 5, 2) := by decide +kernel
theorem dX6_swaps_16 : decode cX6_swaps 16 = .ok (.iconst 0, 1) := by decide +kernel
theorem dX6_swaps_17 : decode cX6_swaps 17 = .ok (.istore 6, 2) := by decide +kernel
theorem dX6_swaps_19 : decode cX6_swaps 19 = .ok (.iload 6, 2) := by decide +kernel
theorem dX6_swaps_21 : decode cX6_swaps 21 = .ok (.aload_n 0, 1) := by decide +kernel
theorem dX6_swaps_22 : decode cX6_swaps 22 = .ok (.getfield 126, 3) := by decide +kernel
theorem dX6_swaps_25 : decode cX6_swaps 25 = .ok (.if_icmp .ge 68, 3) := by decide +kernel
theorem dX6_swaps_28 : decode cX6_swaps 28 = .ok (.iload 6, 2) := by decide +kernel
theorem dX6_swaps_30 : decode cX6_swaps 30 = .ok (.iload_n 1, 1) := by decide +kernel
theorem dX6_swaps_31 : decode cX6_swaps 31 = .ok (.if_icmp .eq 56, 3) := by decide +kernel
theorem dX6_swaps_34 : decode cX6_swaps 34 = .ok (.iload 6, 2) := by decide +kernel
theorem dX6_swaps_36 : decode cX6_swaps 36 = .ok (.iload_n 2, 1) := by decide +kernel
theorem dX6_swaps_37 : decode cX6_swaps 37 = .ok (.if_icmp .eq 50, 3) := by decide +kernel
theorem dX6_swaps_40 : decode cX6_swaps 40 = .ok (.aload_n 0, 1) := by decide +kernel
theorem dX6_swaps_41 : decode cX6_swaps 41 = .ok (.iload 6, 2) := by decide +kernel
theorem dX6_swaps_43 : decode cX6_swaps 43 = .ok (.invokevirtual 217, 3) := by decide +kernel
theorem dX6_swaps_46 : decode cX6_swaps 46 = .ok (.ifCond .eq 41, 3) := by decide +kernel
theorem dX6_swaps_49 : decode cX6_swaps 49 = .ok (.aload_n 0, 1) := by decide +kernel
theorem dX6_swaps_50 : decode cX6_swaps 50 = .ok (.getfield 7, 3) := by decide +kernel
theorem dX6_swaps_53 : decode cX6_swaps 53 = .ok (.bipush 96, 2) := by decide +kernel
theorem dX6_swaps_55 : decode cX6_swaps 55 = .ok (.iload 6, 2) := by decide +kernel
theorem dX6_swaps_57 : decode cX6_swaps 57 = .ok (.iadd, 1) := by decide +kernel
theorem dX6_swaps_58 : decode cX6_swaps 58 = .ok (.iaload, 1) := by decide +kernel
theorem dX6_swaps_59 : decode cX6_swaps 59 = .ok (.iload_n 1, 1) := by decide +kernel
theorem dX6_swaps_60 : decode cX6_swaps 60 = .ok (.if_icmp .eq 17, 3) := by decide +kernel
theorem dX6_swaps_63 : decode cX6_swaps 63 = .ok (.aload_n 0, 1) := by decide +kernel
theorem dX6_swaps_64 : decode cX6_swaps 64 = .ok (.getfield 7, 3) := by decide +kernel
theorem dX6_swaps_67 : decode cX6_swaps 67 = .ok (.bipush 96, 2) := by decide +kernel
theorem dX6_swaps_69 : decode cX6_swaps 69 = .ok (.iload 6, 2) := by decide +kernel
theorem dX6_swaps_71 : decode cX6_swaps 71 = .ok (.iadd, 1) := by decide +kernel
theorem dX6_swaps_72 : decode cX6_swaps 72 = .ok (.iaload, 1) := by decide +kernel
theorem dX6_swaps_73 : decode cX6_swaps 73 = .ok (.iload_n 2, 1) := by decide +kernel
theorem dX6_swaps_74 : decode cX6_swaps 74 = .ok (.if_icmp .ne 13, 3) := by decide +kernel
theorem dX6_swaps_77 : decode cX6_swaps 77 = .ok (.aload_n 0, 1) := by decide +kernel
theorem dX6_swaps_78 : decode cX6_swaps 78 = .ok (.iload 6, 2) := by decide +kernel
theorem dX6_swaps_80 : decode cX6_swaps 80 = .ok (.iconst 2, 1) := by decide +kernel
theorem dX6_swaps_81 : decode cX6_swaps 81 = .ok (.invokevirtual 282, 3) := by decide +kernel
theorem dX6_swaps_84 : decode cX6_swaps 84 = .ok (.iinc 5 1, 3) := by decide +kernel
theorem dX6_swaps_87 : decode cX6_swaps 87 = .ok (.iinc 6 1, 3) := by decide +kernel
theorem dX6_swaps_90 : decode cX6_swaps 90 = .ok (.goto (-71), 3) := by decide +kernel
theorem dX6_swaps_93 : decode cX6_swaps 93 = .ok (.aload_n 0, 1) := by decide +kernel
theorem dX6_swaps_94 : decode cX6_swaps 94 = .ok (.iload_n 1, 1) := by decide +kernel
theorem dX6_swaps_95 : decode cX6_swaps 95 = .ok (.iload_n 2, 1) := by decide +kernel
theorem dX6_swaps_96 : decode cX6_swaps 96 = .ok (.invokestatic 294, 3) := by decide +kernel
theorem dX6_swaps_99 : decode cX6_swaps 99 = .ok (.invokevirtual 288, 3) := by decide +kernel
theorem dX6_swaps_102 : decode cX6_swaps 102 = .ok (.aload_n 0, 1) := by decide +kernel
theorem dX6_swaps_103 : decode cX6_swaps 103 = .ok (.iload_n 1, 1) := by decide +kernel
theorem dX6_swaps_104 : decode cX6_swaps 104 = .ok (.iload_n 2, 1) := by decide +kernel
theorem dX6_swaps_105 : decode cX6_swaps 105 = .ok (.invokestatic 263, 3) := by decide +kernel
theorem dX6_swaps_108 : decode cX6_swaps 108 = .ok (.invokevirtual 288, 3) := by decide +kernel
theorem dX6_swaps_111 : decode cX6_swaps 111 = .ok (.aload_n 0, 1) := by decide +kernel
theorem dX6_swaps_112 : decode cX6_swaps 112 = .ok (.getfield 7, 3) := by decide +kernel
theorem dX6_swaps_115 : decode cX6_swaps 115 = .ok (.iconst 0, 1) := by decide +kernel
theorem dX6_swaps_116 : decode cX6_swaps 116 = .ok (.iload_n 1, 1) := by decide +kernel
theorem dX6_swaps_117 : decode cX6_swaps 117 = .ok (.iadd, 1) := by decide +kernel
theorem dX6_swaps_118 : decode cX6_swaps 118 = .ok (.iload 4, 2) := by decide +kernel
theorem dX6_swaps_120 : decode cX6_swaps 120 = .ok (.iastore, 1) := by decide +kernel
theorem dX6_swaps_121 : decode cX6_swaps 121 = .ok (.aload_n 0, 1) := by decide +kernel
theorem dX6_swaps_122 : decode cX6_swaps 122 = .ok (.getfield 7, 3) := by decide +kernel
theorem dX6_swaps_125 : decode cX6_swaps 125 = .ok (.iconst 0, 1) := by decide +kernel
theorem dX6_swaps_126 : decode cX6_swaps 126 = .ok (.iload_n 2, 1) := by decide +kernel
theorem dX6_swaps_127 : decode cX6_swaps 127 = .ok (.iadd, 1) := by decide +kernel
theorem dX6_swaps_128 : decode cX6_swaps 128 = .ok (.iload_n 3, 1) := by decide +kernel
theorem dX6_swaps_129 : decode cX6_swaps 129 = .ok (.iastore, 1) := by decide +kernel
theorem dX6_swaps_130 : decode cX6_swaps 130 = .ok (.iload 5, 2) := by decide +kernel
theorem dX6_swaps_132 : decode cX6_swaps 132 = .ok (.ireturn, 1) := by decide +kernel
theorem dX6_locks_0 : decode cX6_locks 0 = .ok (.aload_n 0, 1) := by decide +kernel
theorem dX6_locks_1 : decode cX6_locks 1 = .ok (.getfield 7, 3) := by decide +kernel
theorem dX6_locks_4 : decode cX6_locks 4 = .ok (.sipush 288, 3) := by decide +kernel
theorem dX6_locks_7 : decode cX6_locks 7 = .ok (.iload_n 1, 1) := by decide +kernel
theorem dX6_locks_8 : decode cX6_locks 8 = .ok (.iadd, 1) := by decide +kernel
theorem dX6_locks_9 : decode cX6_locks 9 = .ok (.iconst 1, 1) := by decide +kernel
theorem dX6_locks_10 : decode cX6_locks 10 = .ok (.iastore, 1) := by decide +kernel
theorem dX6_locks_11 : decode cX6_locks 11 = .ok (.aload_n 0, 1) := by decide +kernel
theorem dX6_locks_12 : decode cX6_locks 12 = .ok (.iload_n 1, 1) := by decide +kernel
theorem dX6_locks_13 : decode cX6_locks 13 = .ok (.invokevirtual 217, 3) := by decide +kernel
theorem dX6_locks_16 : decode cX6_locks 16 = .ok (.invokestatic 232, 3) := by decide +kernel
theorem dX6_locks_19 : decode cX6_locks 19 = .ok (.istore_n 2, 1) := by decide +kernel
theorem dX6_locks_20 : decode cX6_locks 20 = .ok (.iload_n 2, 1) := by decide +kernel
theorem dX6_locks_21 : decode cX6_locks 21 = .ok (.iconst 1, 1) := by decide +kernel
theorem dX6_locks_22 : decode cX6_locks 22 = .ok (.if_icmp .ne 9, 3) := by decide +kernel
theorem dX6_locks_25 : decode cX6_locks 25 = .ok (.aload_n 0, 1) := by decide +kernel
theorem dX6_locks_26 : decode cX6_locks 26 = .ok (.iload_n 1, 1) := by decide +kernel
theorem dX6_locks_27 : decode cX6_locks 27 = .ok (.iconst 2, 1) := by decide +kernel
theorem dX6_locks_28 : decode cX6_locks 28 = .ok (.invokevirtual 282, 3) := by decide +kernel
theorem dX6_locks_31 : decode cX6_locks 31 = .ok (.iload_n 2, 1) := by decide +kernel
theorem dX6_locks_32 : decode cX6_locks 32 = .ok (.ireturn, 1) := by decide +kernel
theorem dX6_ticks_0 : decode cX6_ticks 0 = .ok (.iconst 0, 1) := by decide +kernel
theorem dX6_ticks_1 : decode cX6_ticks 1 = .ok (.istore_n 2, 1) := by decide +kernel
theorem dX6_ticks_2 : decode cX6_ticks 2 = .ok (.iconst 0, 1) := by decide +kernel
theorem dX6_ticks_3 : decode cX6_ticks 3 = .ok (.istore_n 3, 1) := by decide +kernel
theorem dX6_ticks_4 : decode cX6_ticks 4 = .ok (.iload_n 3, 1) := by decide +kernel
theorem dX6_ticks_5 : decode cX6_ticks 5 = .ok (.iload_n 1, 1) := by decide +kernel
theorem dX6_ticks_6 : decode cX6_ticks 6 = .ok (.aload_n 0, 1) := by decide +kernel
theorem dX6_ticks_7 : decode cX6_ticks 7 = .ok (.getfield 7, 3) := by decide +kernel
theorem dX6_ticks_10 : decode cX6_ticks 10 = .ok (.sipush 384, 3) := by decide +kernel
theorem dX6_ticks_13 : decode cX6_ticks 13 = .ok (.iaload, 1) := by decide +kernel
theorem dX6_ticks_14 : decode cX6_ticks 14 = .ok (.imul, 1) := by decide +kernel
theorem dX6_ticks_15 : decode cX6_ticks 15 = .ok (.if_icmp .ge 33, 3) := by decide +kernel
theorem dX6_ticks_18 : decode cX6_ticks 18 = .ok (.aload_n 0, 1) := by decide +kernel
theorem dX6_ticks_19 : decode cX6_ticks 19 = .ok (.invokevirtual 260, 3) := by decide +kernel
theorem dX6_ticks_22 : decode cX6_ticks 22 = .ok (.istore 4, 2) := by decide +kernel
theorem dX6_ticks_24 : decode cX6_ticks 24 = .ok (.iload 4, 2) := by decide +kernel
theorem dX6_ticks_26 : decode cX6_ticks 26 = .ok (.iconst (-1), 1) := by decide +kernel
theorem dX6_ticks_27 : decode cX6_ticks 27 = .ok (.if_icmp .ne 5, 3) := by decide +kernel
theorem dX6_ticks_30 : decode cX6_ticks 30 = .ok (.iload_n 2, 1) := by decide +kernel
theorem dX6_ticks_31 : decode cX6_ticks 31 = .ok (.ireturn, 1) := by decide +kernel
theorem dX6_ticks_32 : decode cX6_ticks 32 = .ok (.aload_n 0, 1) := by decide +kernel
theorem dX6_ticks_33 : decode cX6_ticks 33 = .ok (.iload 4, 2) := by decide +kernel
theorem dX6_ticks_35 : decode cX6_ticks 35 = .ok (.iconst 1, 1) := by decide +kernel
theorem dX6_ticks_36 : decode cX6_ticks 36 = .ok (.invokevirtual 282, 3) := by decide +kernel
theorem dX6_ticks_39 : decode cX6_ticks 39 = .ok (.iinc 2 1, 3) := by decide +kernel
theorem dX6_ticks_42 : decode cX6_ticks 42 = .ok (.iinc 3 1, 3) := by decide +kernel
theorem dX6_ticks_45 : decode cX6_ticks 45 = .ok (.goto (-41), 3) := by decide +kernel
theorem dX6_ticks_48 : decode cX6_ticks 48 = .ok (.iload_n 2, 1) := by decide +kernel
theorem dX6_ticks_49 : decode cX6_ticks 49 = .ok (.ireturn, 1) := by decide +kernel
theorem dX6_whyCopy_0 : decode cX6_whyCopy 0 = .ok (.aload_n 0, 1) := by decide +kernel
theorem dX6_whyCopy_1 : decode cX6_whyCopy 1 = .ok (.invokevirtual 207, 3) := by decide +kernel
theorem dX6_whyCopy_4 : decode cX6_whyCopy 4 = .ok (.ifCond .eq 7, 3) := by decide +kernel
theorem dX6_whyCopy_7 : decode cX6_whyCopy 7 = .ok (.iconst 0, 1) := by decide +kernel
theorem dX6_whyCopy_8 : decode cX6_whyCopy 8 = .ok (.goto 10, 3) := by decide +kernel
theorem dX6_whyCopy_11 : decode cX6_whyCopy 11 = .ok (.aload_n 0, 1) := by decide +kernel
theorem dX6_whyCopy_12 : decode cX6_whyCopy 12 = .ok (.iload_n 1, 1) := by decide +kernel
theorem dX6_whyCopy_13 : decode cX6_whyCopy 13 = .ok (.iload_n 2, 1) := by decide +kernel
theorem dX6_whyCopy_14 : decode cX6_whyCopy 14 = .ok (.iload_n 3, 1) := by decide +kernel
theorem dX6_whyCopy_15 : decode cX6_whyCopy 15 = .ok (.invokevirtual 135, 3) := by decide +kernel
theorem dX6_whyCopy_18 : decode cX6_whyCopy 18 = .ok (.ireturn, 1) := by decide +kernel
theorem dX6_inCopy_0 : decode cX6_inCopy 0 = .ok (.aload_n 0, 1) := by decide +kernel
theorem dX6_inCopy_1 : decode cX6_inCopy 1 = .ok (.invokevirtual 207, 3) := by decide +kernel
theorem dX6_inCopy_4 : decode cX6_inCopy 4 = .ok (.ifCond .ne 26, 3) := by decide +kernel
theorem dX6_inCopy_7 : decode cX6_inCopy 7 = .ok (.aload_n 0, 1) := by decide +kernel
theorem dX6_inCopy_8 : decode cX6_inCopy 8 = .ok (.aload_n 0, 1) := by decide +kernel
theorem dX6_inCopy_9 : decode cX6_inCopy 9 = .ok (.iload_n 1, 1) := by decide +kernel
theorem dX6_inCopy_10 : decode cX6_inCopy 10 = .ok (.iload_n 2, 1) := by decide +kernel
theorem dX6_inCopy_11 : decode cX6_inCopy 11 = .ok (.iload_n 3, 1) := by decide +kernel
theorem dX6_inCopy_12 : decode cX6_inCopy 12 = .ok (.invokevirtual 135, 3) := by decide +kernel
theorem dX6_inCopy_15 : decode cX6_inCopy 15 = .ok (.ifCond .eq 7, 3) := by decide +kernel
theorem dX6_inCopy_18 : decode cX6_inCopy 18 = .ok (.iconst 1, 1) := by decide +kernel
theorem dX6_inCopy_19 : decode cX6_inCopy 19 = .ok (.goto 4, 3) := by decide +kernel
theorem dX6_inCopy_22 : decode cX6_inCopy 22 = .ok (.iconst 0, 1) := by decide +kernel
theorem dX6_inCopy_23 : decode cX6_inCopy 23 = .ok (.iconst 2, 1) := by decide +kernel
theorem dX6_inCopy_24 : decode cX6_inCopy 24 = .ok (.invokevirtual 40, 3) := by decide +kernel
theorem dX6_inCopy_27 : decode cX6_inCopy 27 = .ok (.ifCond .eq 5, 3) := by decide +kernel
theorem dX6_inCopy_30 : decode cX6_inCopy 30 = .ok (.iconst 0, 1) := by decide +kernel
theorem dX6_inCopy_31 : decode cX6_inCopy 31 = .ok (.ireturn, 1) := by decide +kernel
theorem dX6_inCopy_32 : decode cX6_inCopy 32 = .ok (.aload_n 0, 1) := by decide +kernel
theorem dX6_inCopy_33 : decode cX6_inCopy 33 = .ok (.iconst 0, 1) := by decide +kernel
theorem dX6_inCopy_34 : decode cX6_inCopy 34 = .ok (.invokevirtual 195, 3) := by decide +kernel
theorem dX6_inCopy_37 : decode cX6_inCopy 37 = .ok (.iload 4, 2) := by decide +kernel
theorem dX6_inCopy_39 : decode cX6_inCopy 39 = .ok (.iconst (-1), 1) := by decide +kernel
theorem dX6_inCopy_40 : decode cX6_inCopy 40 = .ok (.if_icmp .ne 7, 3) := by decide +kernel
theorem dX6_inCopy_43 : decode cX6_inCopy 43 = .ok (.iconst 0, 1) := by decide +kernel
theorem dX6_inCopy_44 : decode cX6_inCopy 44 = .ok (.goto 14, 3) := by decide +kernel
theorem dX6_inCopy_47 : decode cX6_inCopy 47 = .ok (.aload_n 0, 1) := by decide +kernel
theorem dX6_inCopy_48 : decode cX6_inCopy 48 = .ok (.getfield 7, 3) := by decide +kernel
theorem dX6_inCopy_51 : decode cX6_inCopy 51 = .ok (.sipush 390, 3) := by decide +kernel
theorem dX6_inCopy_54 : decode cX6_inCopy 54 = .ok (.iload 4, 2) := by decide +kernel
theorem dX6_inCopy_56 : decode cX6_inCopy 56 = .ok (.iadd, 1) := by decide +kernel
theorem dX6_inCopy_57 : decode cX6_inCopy 57 = .ok (.iaload, 1) := by decide +kernel
theorem dX6_inCopy_58 : decode cX6_inCopy 58 = .ok (.istore 5, 2) := by decide +kernel
theorem dX6_inCopy_60 : decode cX6_inCopy 60 = .ok (.aload_n 0, 1) := by decide +kernel
theorem dX6_inCopy_61 : decode cX6_inCopy 61 = .ok (.iload_n 1, 1) := by decide +kernel
theorem dX6_inCopy_62 : decode cX6_inCopy 62 = .ok (.iload_n 2, 1) := by decide +kernel
theorem dX6_inCopy_63 : decode cX6_inCopy 63 = .ok (.iload_n 3, 1) := by decide +kernel
theorem dX6_inCopy_64 : decode cX6_inCopy 64 = .ok (.invokevirtual 139, 3) := by decide +kernel
theorem dX6_inCopy_67 : decode cX6_inCopy 67 = .ok (.iload 4, 2) := by decide +kernel
theorem dX6_inCopy_69 : decode cX6_inCopy 69 = .ok (.iconst (-1), 1) := by decide +kernel
theorem dX6_inCopy_70 : decode cX6_inCopy 70 = .ok (.if_icmp .ne 10, 3) := by decide +kernel
theorem dX6_inCopy_73 : decode cX6_inCopy 73 = .ok (.aload_n 0, 1) := by decide +kernel
theorem dX6_inCopy_74 : decode cX6_inCopy 74 = .ok (.invokevirtual 236, 3) := by decide +kernel
theorem dX6_inCopy_77 : decode cX6_inCopy 77 = .ok (.goto 17, 3) := by decide +kernel
theorem dX6_inCopy_80 : decode cX6_inCopy 80 = .ok (.aload_n 0, 1) := by decide +kernel
theorem dX6_inCopy_81 : decode cX6_inCopy 81 = .ok (.getfield 7, 3) := by decide +kernel
theorem dX6_inCopy_84 : decode cX6_inCopy 84 = .ok (.sipush 390, 3) := by decide +kernel
theorem dX6_inCopy_87 : decode cX6_inCopy 87 = .ok (.iload 4, 2) := by decide +kernel
theorem dX6_inCopy_89 : decode cX6_inCopy 89 = .ok (.iadd, 1) := by decide +kernel
theorem dX6_inCopy_90 : decode cX6_inCopy 90 = .ok (.iaload, 1) := by decide +kernel
theorem dX6_inCopy_91 : decode cX6_inCopy 91 = .ok (.iload 5, 2) := by decide +kernel
theorem dX6_inCopy_93 : decode cX6_inCopy 93 = .ok (.isub, 1) := by decide +kernel
theorem dX6_inCopy_94 : decode cX6_inCopy 94 = .ok (.istore 6, 2) := by decide +kernel
theorem dX6_inCopy_96 : decode cX6_inCopy 96 = .ok (.aload_n 0, 1) := by decide +kernel
theorem dX6_inCopy_97 : decode cX6_inCopy 97 = .ok (.iconst 0, 1) := by decide +kernel
theorem dX6_inCopy_98 : decode cX6_inCopy 98 = .ok (.invokevirtual 201, 3) := by decide +kernel
theorem dX6_inCopy_101 : decode cX6_inCopy 101 = .ok (.iload 6, 2) := by decide +kernel
theorem dX6_inCopy_103 : decode cX6_inCopy 103 = .ok (.ireturn, 1) := by decide +kernel
theorem dX6_forcedByCopy_0 : decode cX6_forcedByCopy 0 = .ok (.aload_n 0, 1) := by decide +kernel
theorem dX6_forcedByCopy_1 : decode cX6_forcedByCopy 1 = .ok (.iload_n 1, 1) := by decide +kernel
theorem dX6_forcedByCopy_2 : decode cX6_forcedByCopy 2 = .ok (.iload_n 2, 1) := by decide +kernel
theorem dX6_forcedByCopy_3 : decode cX6_forcedByCopy 3 = .ok (.iload_n 3, 1) := by decide +kernel
theorem dX6_forcedByCopy_4 : decode cX6_forcedByCopy 4 = .ok (.iconst 3, 1) := by decide +kernel
theorem dX6_forcedByCopy_5 : decode cX6_forcedByCopy 5 = .ok (.invokevirtual 297, 3) := by decide +kernel
theorem dX6_forcedByCopy_8 : decode cX6_forcedByCopy 8 = .ok (.ireturn, 1) := by decide +kernel
theorem dX6_owedIfCopy_0 : decode cX6_owedIfCopy 0 = .ok (.aload_n 0, 1) := by decide +kernel
theorem dX6_owedIfCopy_1 : decode cX6_owedIfCopy 1 = .ok (.iload_n 1, 1) := by decide +kernel
theorem dX6_owedIfCopy_2 : decode cX6_owedIfCopy 2 = .ok (.iload_n 2, 1) := by decide +kernel
theorem dX6_owedIfCopy_3 : decode cX6_owedIfCopy 3 = .ok (.iload_n 3, 1) := by decide +kernel
theorem dX6_owedIfCopy_4 : decode cX6_owedIfCopy 4 = .ok (.iconst (-1), 1) := by decide +kernel
theorem dX6_owedIfCopy_5 : decode cX6_owedIfCopy 5 = .ok (.invokevirtual 297, 3) := by decide +kernel
theorem dX6_owedIfCopy_8 : decode cX6_owedIfCopy 8 = .ok (.ireturn, 1) := by decide +kernel
theorem dX6_costOfCopy_0 : decode cX6_costOfCopy 0 = .ok (.aload_n 0, 1) := by decide +kernel
theorem dX6_costOfCopy_1 : decode cX6_costOfCopy 1 = .ok (.iload_n 1, 1) := by decide +kernel
theorem dX6_costOfCopy_2 : decode cX6_costOfCopy 2 = .ok (.iload_n 2, 1) := by decide +kernel
theorem dX6_costOfCopy_3 : decode cX6_costOfCopy 3 = .ok (.iload_n 3, 1) := by decide +kernel
theorem dX6_costOfCopy_4 : decode cX6_costOfCopy 4 = .ok (.bipush 7, 2) := by decide +kernel
theorem dX6_costOfCopy_6 : decode cX6_costOfCopy 6 = .ok (.invokevirtual 297, 3) := by decide +kernel
theorem dX6_costOfCopy_9 : decode cX6_costOfCopy 9 = .ok (.ireturn, 1) := by decide +kernel
theorem dX6_forcedByWrite_0 : decode cX6_forcedByWrite 0 = .ok (.aload_n 0, 1) := by decide +kernel
theorem dX6_forcedByWrite_1 : decode cX6_forcedByWrite 1 = .ok (.iload_n 1, 1) := by decide +kernel
theorem dX6_forcedByWrite_2 : decode cX6_forcedByWrite 2 = .ok (.invokevirtual 223, 3) := by decide +kernel
theorem dX6_forcedByWrite_5 : decode cX6_forcedByWrite 5 = .ok (.ifCond .ne 30, 3) := by decide +kernel
theorem dX6_forcedByWrite_8 : decode cX6_forcedByWrite 8 = .ok (.aload_n 0, 1) := by decide +kernel
theorem dX6_forcedByWrite_9 : decode cX6_forcedByWrite 9 = .ok (.aload_n 0, 1) := by decide +kernel
theorem dX6_forcedByWrite_10 : decode cX6_forcedByWrite 10 = .ok (.getfield 7, 3) := by decide +kernel
theorem dX6_forcedByWrite_13 : decode cX6_forcedByWrite 13 = .ok (.sipush 288, 3) := by decide +kernel
theorem dX6_forcedByWrite_16 : decode cX6_forcedByWrite 16 = .ok (.iload_n 1, 1) := by decide +kernel
theorem dX6_forcedByWrite_17 : decode cX6_forcedByWrite 17 = .ok (.iadd, 1) := by decide +kernel
theorem dX6_forcedByWrite_18 : decode cX6_forcedByWrite 18 = .ok (.iaload, 1) := by decide +kernel
theorem dX6_forcedByWrite_19 : decode cX6_forcedByWrite 19 = .ok (.iconst 1, 1) := by decide +kernel
theorem dX6_forcedByWrite_20 : decode cX6_forcedByWrite 20 = .ok (.if_icmp .ne 7, 3) := by decide +kernel
theorem dX6_forcedByWrite_23 : decode cX6_forcedByWrite 23 = .ok (.iconst 1, 1) := by decide +kernel
theorem dX6_forcedByWrite_24 : decode cX6_forcedByWrite 24 = .ok (.goto 4, 3) := by decide +kernel
theorem dX6_forcedByWrite_27 : decode cX6_forcedByWrite 27 = .ok (.iconst 0, 1) := by decide +kernel
theorem dX6_forcedByWrite_28 : decode cX6_forcedByWrite 28 = .ok (.iconst 3, 1) := by decide +kernel
theorem dX6_forcedByWrite_29 : decode cX6_forcedByWrite 29 = .ok (.invokevirtual 40, 3) := by decide +kernel
theorem dX6_forcedByWrite_32 : decode cX6_forcedByWrite 32 = .ok (.ifCond .eq 5, 3) := by decide +kernel
theorem dX6_forcedByWrite_35 : decode cX6_forcedByWrite 35 = .ok (.iconst 0, 1) := by decide +kernel
theorem dX6_forcedByWrite_36 : decode cX6_forcedByWrite 36 = .ok (.ireturn, 1) := by decide +kernel
theorem dX6_forcedByWrite_37 : decode cX6_forcedByWrite 37 = .ok (.iconst 0, 1) := by decide +kernel
theorem dX6_forcedByWrite_38 : decode cX6_forcedByWrite 38 = .ok (.istore_n 2, 1) := by decide +kernel
theorem dX6_forcedByWrite_39 : decode cX6_forcedByWrite 39 = .ok (.iconst 0, 1) := by decide +kernel
theorem dX6_forcedByWrite_40 : decode cX6_forcedByWrite 40 = .ok (.istore_n 3, 1) := by decide +kernel
theorem dX6_forcedByWrite_41 : decode cX6_forcedByWrite 41 = .ok (.iload_n 3, 1) := by decide +kernel
theorem dX6_forcedByWrite_42 : decode cX6_forcedByWrite 42 = .ok (.aload_n 0, 1) := by decide +kernel
theorem dX6_forcedByWrite_43 : decode cX6_forcedByWrite 43 = .ok (.getfield 126, 3) := by decide +kernel
theorem dX6_forcedByWrite_46 : decode cX6_forcedByWrite 46 = .ok (.if_icmp .ge 33, 3) := by decide +kernel
theorem dX6_forcedByWrite_49 : decode cX6_forcedByWrite 49 = .ok (.iload_n 2, 1) := by decide +kernel
theorem dX6_forcedByWrite_50 : decode cX6_forcedByWrite 50 = .ok (.aload_n 0, 1) := by decide +kernel
theorem dX6_forcedByWrite_51 : decode cX6_forcedByWrite 51 = .ok (.getfield 7, 3) := by decide +kernel
theorem dX6_forcedByWrite_54 : decode cX6_forcedByWrite 54 = .ok (.bipush 96, 2) := by decide +kernel
theorem dX6_forcedByWrite_56 : decode cX6_forcedByWrite 56 = .ok (.iload_n 3, 1) := by decide +kernel
theorem dX6_forcedByWrite_57 : decode cX6_forcedByWrite 57 = .ok (.iadd, 1) := by decide +kernel
theorem dX6_forcedByWrite_58 : decode cX6_forcedByWrite 58 = .ok (.iaload, 1) := by decide +kernel
theorem dX6_forcedByWrite_59 : decode cX6_forcedByWrite 59 = .ok (.iload_n 1, 1) := by decide +kernel
theorem dX6_forcedByWrite_60 : decode cX6_forcedByWrite 60 = .ok (.if_icmp .ne 7, 3) := by decide +kernel
theorem dX6_forcedByWrite_63 : decode cX6_forcedByWrite 63 = .ok (.iconst 1, 1) := by decide +kernel
theorem dX6_forcedByWrite_64 : decode cX6_forcedByWrite 64 = .ok (.goto 4, 3) := by decide +kernel
theorem dX6_forcedByWrite_67 : decode cX6_forcedByWrite 67 = .ok (.iconst 0, 1) := by decide +kernel
theorem dX6_forcedByWrite_68 : decode cX6_forcedByWrite 68 = .ok (.invokestatic 232, 3) := by decide +kernel
theorem dX6_forcedByWrite_71 : decode cX6_forcedByWrite 71 = .ok (.iadd, 1) := by decide +kernel
theorem dX6_forcedByWrite_72 : decode cX6_forcedByWrite 72 = .ok (.istore_n 2, 1) := by decide +kernel
theorem dX6_forcedByWrite_73 : decode cX6_forcedByWrite 73 = .ok (.iinc 3 1, 3) := by decide +kernel
theorem dX6_forcedByWrite_76 : decode cX6_forcedByWrite 76 = .ok (.goto (-35), 3) := by decide +kernel
theorem dX6_forcedByWrite_79 : decode cX6_forcedByWrite 79 = .ok (.iload_n 2, 1) := by decide +kernel
theorem dX6_forcedByWrite_80 : decode cX6_forcedByWrite 80 = .ok (.ireturn, 1) := by decide +kernel
theorem dX6_ticksToClear_0 : decode cX6_ticksToClear 0 = .ok (.aload_n 0, 1) := by decide +kernel
theorem dX6_ticksToClear_1 : decode cX6_ticksToClear 1 = .ok (.invokevirtual 207, 3) := by decide +kernel
theorem dX6_ticksToClear_4 : decode cX6_ticksToClear 4 = .ok (.ifCond .eq 7, 3) := by decide +kernel
theorem dX6_ticksToClear_7 : decode cX6_ticksToClear 7 = .ok (.iconst 0, 1) := by decide +kernel
theorem dX6_ticksToClear_8 : decode cX6_ticksToClear 8 = .ok (.goto 27, 3) := by decide +kernel
theorem dX6_ticksToClear_11 : decode cX6_ticksToClear 11 = .ok (.aload_n 0, 1) := by decide +kernel
theorem dX6_ticksToClear_12 : decode cX6_ticksToClear 12 = .ok (.invokevirtual 236, 3) := by decide +kernel
theorem dX6_ticksToClear_15 : decode cX6_ticksToClear 15 = .ok (.aload_n 0, 1) := by decide +kernel
theorem dX6_ticksToClear_16 : decode cX6_ticksToClear 16 = .ok (.getfield 7, 3) := by decide +kernel
theorem dX6_ticksToClear_19 : decode cX6_ticksToClear 19 = .ok (.sipush 384, 3) := by decide +kernel
theorem dX6_ticksToClear_22 : decode cX6_ticksToClear 22 = .ok (.iaload, 1) := by decide +kernel
theorem dX6_ticksToClear_23 : decode cX6_ticksToClear 23 = .ok (.iadd, 1) := by decide +kernel
theorem dX6_ticksToClear_24 : decode cX6_ticksToClear 24 = .ok (.iconst 1, 1) := by decide +kernel
theorem dX6_ticksToClear_25 : decode cX6_ticksToClear 25 = .ok (.isub, 1) := by decide +kernel
theorem dX6_ticksToClear_26 : decode cX6_ticksToClear 26 = .ok (.aload_n 0, 1) := by decide +kernel
theorem dX6_ticksToClear_27 : decode cX6_ticksToClear 27 = .ok (.getfield 7, 3) := by decide +kernel
theorem dX6_ticksToClear_30 : decode cX6_ticksToClear 30 = .ok (.sipush 384, 3) := by decide +kernel
theorem dX6_ticksToClear_33 : decode cX6_ticksToClear 33 = .ok (.iaload, 1) := by decide +kernel
theorem dX6_ticksToClear_34 : decode cX6_ticksToClear 34 = .ok (.idiv, 1) := by decide +kernel
theorem dX6_ticksToClear_35 : decode cX6_ticksToClear 35 = .ok (.ireturn, 1) := by decide +kernel
theorem dX6_owedAfter_0 : decode cX6_owedAfter 0 = .ok (.aload_n 0, 1) := by decide +kernel
theorem dX6_owedAfter_1 : decode cX6_owedAfter 1 = .ok (.invokevirtual 207, 3) := by decide +kernel
theorem dX6_owedAfter_4 : decode cX6_owedAfter 4 = .ok (.ifCond .ne 26, 3) := by decide +kernel
theorem dX6_owedAfter_7 : decode cX6_owedAfter 7 = .ok (.aload_n 0, 1) := by decide +kernel
theorem dX6_owedAfter_8 : decode cX6_owedAfter 8 = .ok (.iload_n 1, 1) := by decide +kernel
theorem dX6_owedAfter_9 : decode cX6_owedAfter 9 = .ok (.iconst 1, 1) := by decide +kernel
theorem dX6_owedAfter_10 : decode cX6_owedAfter 10 = .ok (.bipush 100, 2) := by decide +kernel
theorem dX6_owedAfter_12 : decode cX6_owedAfter 12 = .ok (.invokestatic 98, 3) := by decide +kernel
theorem dX6_owedAfter_15 : decode cX6_owedAfter 15 = .ok (.ifCond .ne 7, 3) := by decide +kernel
theorem dX6_owedAfter_18 : decode cX6_owedAfter 18 = .ok (.iconst 1, 1) := by decide +kernel
theorem dX6_owedAfter_19 : decode cX6_owedAfter 19 = .ok (.goto 4, 3) := by decide +kernel
theorem dX6_owedAfter_22 : decode cX6_owedAfter 22 = .ok (.iconst 0, 1) := by decide +kernel
theorem dX6_owedAfter_23 : decode cX6_owedAfter 23 = .ok (.iconst 2, 1) := by decide +kernel
theorem dX6_owedAfter_24 : decode cX6_owedAfter 24 = .ok (.invokevirtual 40, 3) := by decide +kernel
theorem dX6_owedAfter_27 : decode cX6_owedAfter 27 = .ok (.ifCond .eq 5, 3) := by decide +kernel
theorem dX6_owedAfter_30 : decode cX6_owedAfter 30 = .ok (.iconst 0, 1) := by decide +kernel
theorem dX6_owedAfter_31 : decode cX6_owedAfter 31 = .ok (.ireturn, 1) := by decide +kernel
theorem dX6_owedAfter_32 : decode cX6_owedAfter 32 = .ok (.iconst 0, 1) := by decide +kernel
theorem dX6_owedAfter_33 : decode cX6_owedAfter 33 = .ok (.aload_n 0, 1) := by decide +kernel
theorem dX6_owedAfter_34 : decode cX6_owedAfter 34 = .ok (.invokevirtual 236, 3) := by decide +kernel
theorem dX6_owedAfter_37 : decode cX6_owedAfter 37 = .ok (.iload_n 1, 1) := by decide +kernel
theorem dX6_owedAfter_38 : decode cX6_owedAfter 38 = .ok (.aload_n 0, 1) := by decide +kernel
theorem dX6_owedAfter_39 : decode cX6_owedAfter 39 = .ok (.getfield 7, 3) := by decide +kernel
theorem dX6_owedAfter_42 : decode cX6_owedAfter 42 = .ok (.sipush 384, 3) := by decide +kernel
theorem dX6_owedAfter_45 : decode cX6_owedAfter 45 = .ok (.iaload, 1) := by decide +kernel
theorem dX6_owedAfter_46 : decode cX6_owedAfter 46 = .ok (.imul, 1) := by decide +kernel
theorem dX6_owedAfter_47 : decode cX6_owedAfter 47 = .ok (.isub, 1) := by decide +kernel
theorem dX6_owedAfter_48 : decode cX6_owedAfter 48 = .ok (.invokestatic 263, 3) := by decide +kernel
theorem dX6_owedAfter_51 : decode cX6_owedAfter 51 = .ok (.ireturn, 1) := by decide +kernel
theorem dX6_paidIn_0 : decode cX6_paidIn 0 = .ok (.aload_n 0, 1) := by decide +kernel
theorem dX6_paidIn_1 : decode cX6_paidIn 1 = .ok (.iload_n 1, 1) := by decide +kernel
theorem dX6_paidIn_2 : decode cX6_paidIn 2 = .ok (.invokevirtual 223, 3) := by decide +kernel
theorem dX6_paidIn_5 : decode cX6_paidIn 5 = .ok (.ifCond .eq 5, 3) := by decide +kernel
theorem dX6_paidIn_8 : decode cX6_paidIn 8 = .ok (.iconst 0, 1) := by decide +kernel
theorem dX6_paidIn_9 : decode cX6_paidIn 9 = .ok (.ireturn, 1) := by decide +kernel
theorem dX6_paidIn_10 : decode cX6_paidIn 10 = .ok (.aload_n 0, 1) := by decide +kernel
theorem dX6_paidIn_11 : decode cX6_paidIn 11 = .ok (.iconst 0, 1) := by decide +kernel
theorem dX6_paidIn_12 : decode cX6_paidIn 12 = .ok (.invokevirtual 195, 3) := by decide +kernel
theorem dX6_paidIn_15 : decode cX6_paidIn 15 = .ok (.iconst 0, 1) := by decide +kernel
theorem dX6_paidIn_16 : decode cX6_paidIn 16 = .ok (.istore_n 2, 1) := by decide +kernel
theorem dX6_paidIn_17 : decode cX6_paidIn 17 = .ok (.aload_n 0, 1) := by decide +kernel
theorem dX6_paidIn_18 : decode cX6_paidIn 18 = .ok (.iload_n 1, 1) := by decide +kernel
theorem dX6_paidIn_19 : decode cX6_paidIn 19 = .ok (.invokevirtual 217, 3) := by decide +kernel
theorem dX6_paidIn_22 : decode cX6_paidIn 22 = .ok (.ifCond .eq 15, 3) := by decide +kernel
theorem dX6_paidIn_25 : decode cX6_paidIn 25 = .ok (.aload_n 0, 1) := by decide +kernel
theorem dX6_paidIn_26 : decode cX6_paidIn 26 = .ok (.iconst 1, 1) := by decide +kernel
theorem dX6_paidIn_27 : decode cX6_paidIn 27 = .ok (.invokevirtual 301, 3) := by decide +kernel
theorem dX6_paidIn_30 : decode cX6_paidIn 30 = .ok (.istore_n 3, 1) := by decide +kernel
theorem dX6_paidIn_31 : decode cX6_paidIn 31 = .ok (.iinc 2 1, 3) := by decide +kernel
theorem dX6_paidIn_34 : decode cX6_paidIn 34 = .ok (.goto (-17), 3) := by decide +kernel
theorem dX6_paidIn_37 : decode cX6_paidIn 37 = .ok (.aload_n 0, 1) := by decide +kernel
theorem dX6_paidIn_38 : decode cX6_paidIn 38 = .ok (.iconst 0, 1) := by decide +kernel
theorem dX6_paidIn_39 : decode cX6_paidIn 39 = .ok (.invokevirtual 201, 3) := by decide +kernel
theorem dX6_paidIn_42 : decode cX6_paidIn 42 = .ok (.iload_n 2, 1) := by decide +kernel
theorem dX6_paidIn_43 : decode cX6_paidIn 43 = .ok (.ireturn, 1) := by decide +kernel
theorem dX6_hopsBehind_0 : decode cX6_hopsBehind 0 = .ok (.aload_n 0, 1) := by decide +kernel
theorem dX6_hopsBehind_1 : decode cX6_hopsBehind 1 = .ok (.iconst 0, 1) := by decide +kernel
theorem dX6_hopsBehind_2 : decode cX6_hopsBehind 2 = .ok (.invokevirtual 195, 3) := by decide +kernel
theorem dX6_hopsBehind_5 : decode cX6_hopsBehind 5 = .ok (.aload_n 0, 1) := by decide +kernel
theorem dX6_hopsBehind_6 : decode cX6_hopsBehind 6 = .ok (.getfield 7, 3) := by decide +kernel
theorem dX6_hopsBehind_9 : decode cX6_hopsBehind 9 = .ok (.sipush 386, 3) := by decide +kernel
theorem dX6_hopsBehind_12 : decode cX6_hopsBehind 12 = .ok (.iload_n 1, 1) := by decide +kernel
theorem dX6_hopsBehind_13 : decode cX6_hopsBehind 13 = .ok (.iastore, 1) := by decide +kernel
theorem dX6_hopsBehind_14 : decode cX6_hopsBehind 14 = .ok (.iconst 0, 1) := by decide +kernel
theorem dX6_hopsBehind_15 : decode cX6_hopsBehind 15 = .ok (.istore_n 2, 1) := by decide +kernel
theorem dX6_hopsBehind_16 : decode cX6_hopsBehind 16 = .ok (.aload_n 0, 1) := by decide +kernel
theorem dX6_hopsBehind_17 : decode cX6_hopsBehind 17 = .ok (.iconst 1, 1) := by decide +kernel
theorem dX6_hopsBehind_18 : decode cX6_hopsBehind 18 = .ok (.invokevirtual 301, 3) := by decide +kernel
theorem dX6_hopsBehind_21 : decode cX6_hopsBehind 21 = .ok (.istore_n 3, 1) := by decide +kernel
theorem dX6_hopsBehind_22 : decode cX6_hopsBehind 22 = .ok (.iconst 0, 1) := by decide +kernel
theorem dX6_hopsBehind_23 : decode cX6_hopsBehind 23 = .ok (.istore 4, 2) := by decide +kernel
theorem dX6_hopsBehind_25 : decode cX6_hopsBehind 25 = .ok (.iload 4, 2) := by decide +kernel
theorem dX6_hopsBehind_27 : decode cX6_hopsBehind 27 = .ok (.aload_n 0, 1) := by decide +kernel
theorem dX6_hopsBehind_28 : decode cX6_hopsBehind 28 = .ok (.getfield 126, 3) := by decide +kernel
theorem dX6_hopsBehind_31 : decode cX6_hopsBehind 31 = .ok (.if_icmp .ge 18, 3) := by decide +kernel
theorem dX6_hopsBehind_34 : decode cX6_hopsBehind 34 = .ok (.iload_n 2, 1) := by decide +kernel
theorem dX6_hopsBehind_35 : decode cX6_hopsBehind 35 = .ok (.aload_n 0, 1) := by decide +kernel
theorem dX6_hopsBehind_36 : decode cX6_hopsBehind 36 = .ok (.iload 4, 2) := by decide +kernel
theorem dX6_hopsBehind_38 : decode cX6_hopsBehind 38 = .ok (.invokevirtual 229, 3) := by decide +kernel
theorem dX6_hopsBehind_41 : decode cX6_hopsBehind 41 = .ok (.iadd, 1) := by decide +kernel
theorem dX6_hopsBehind_42 : decode cX6_hopsBehind 42 = .ok (.istore_n 2, 1) := by decide +kernel
theorem dX6_hopsBehind_43 : decode cX6_hopsBehind 43 = .ok (.iinc 4 1, 3) := by decide +kernel
theorem dX6_hopsBehind_46 : decode cX6_hopsBehind 46 = .ok (.goto (-21), 3) := by decide +kernel
theorem dX6_hopsBehind_49 : decode cX6_hopsBehind 49 = .ok (.aload_n 0, 1) := by decide +kernel
theorem dX6_hopsBehind_50 : decode cX6_hopsBehind 50 = .ok (.iconst 0, 1) := by decide +kernel
theorem dX6_hopsBehind_51 : decode cX6_hopsBehind 51 = .ok (.invokevirtual 201, 3) := by decide +kernel
theorem dX6_hopsBehind_54 : decode cX6_hopsBehind 54 = .ok (.iload_n 2, 1) := by decide +kernel
theorem dX6_hopsBehind_55 : decode cX6_hopsBehind 55 = .ok (.ireturn, 1) := by decide +kernel
theorem dX6_bestPolicy_0 : decode cX6_bestPolicy 0 = .ok (.aload_n 0, 1) := by decide +kernel
theorem dX6_bestPolicy_1 : decode cX6_bestPolicy 1 = .ok (.invokevirtual 207, 3) := by decide +kernel
theorem dX6_bestPolicy_4 : decode cX6_bestPolicy 4 = .ok (.ifCond .eq 5, 3) := by decide +kernel
theorem dX6_bestPolicy_7 : decode cX6_bestPolicy 7 = .ok (.iconst 0, 1) := by decide +kernel
theorem dX6_bestPolicy_8 : decode cX6_bestPolicy 8 = .ok (.ireturn, 1) := by decide +kernel
theorem dX6_bestPolicy_9 : decode cX6_bestPolicy 9 = .ok (.iconst 0, 1) := by decide +kernel
theorem dX6_bestPolicy_10 : decode cX6_bestPolicy 10 = .ok (.istore_n 1, 1) := by decide +kernel
theorem dX6_bestPolicy_11 : decode cX6_bestPolicy 11 = .ok (.iconst 1, 1) := by decide +kernel
theorem dX6_bestPolicy_12 : decode cX6_bestPolicy 12 = .ok (.istore_n 2, 1) := by decide +kernel
theorem dX6_bestPolicy_13 : decode cX6_bestPolicy 13 = .ok (.iload_n 2, 1) := by decide +kernel
theorem dX6_bestPolicy_14 : decode cX6_bestPolicy 14 = .ok (.iconst 4, 1) := by decide +kernel
theorem dX6_bestPolicy_15 : decode cX6_bestPolicy 15 = .ok (.if_icmp .ge 28, 3) := by decide +kernel
theorem dX6_bestPolicy_18 : decode cX6_bestPolicy 18 = .ok (.aload_n 0, 1) := by decide +kernel
theorem dX6_bestPolicy_19 : decode cX6_bestPolicy 19 = .ok (.iload_n 2, 1) := by decide +kernel
theorem dX6_bestPolicy_20 : decode cX6_bestPolicy 20 = .ok (.invokevirtual 304, 3) := by decide +kernel
theorem dX6_bestPolicy_23 : decode cX6_bestPolicy 23 = .ok (.aload_n 0, 1) := by decide +kernel
theorem dX6_bestPolicy_24 : decode cX6_bestPolicy 24 = .ok (.iload_n 1, 1) := by decide +kernel
theorem dX6_bestPolicy_25 : decode cX6_bestPolicy 25 = .ok (.invokevirtual 304, 3) := by decide +kernel
theorem dX6_bestPolicy_28 : decode cX6_bestPolicy 28 = .ok (.if_icmp .ge 7, 3) := by decide +kernel
theorem dX6_bestPolicy_31 : decode cX6_bestPolicy 31 = .ok (.iload_n 2, 1) := by decide +kernel
theorem dX6_bestPolicy_32 : decode cX6_bestPolicy 32 = .ok (.goto 4, 3) := by decide +kernel
theorem dX6_bestPolicy_35 : decode cX6_bestPolicy 35 = .ok (.iload_n 1, 1) := by decide +kernel
theorem dX6_bestPolicy_36 : decode cX6_bestPolicy 36 = .ok (.istore_n 1, 1) := by decide +kernel
theorem dX6_bestPolicy_37 : decode cX6_bestPolicy 37 = .ok (.iinc 2 1, 3) := by decide +kernel
theorem dX6_bestPolicy_40 : decode cX6_bestPolicy 40 = .ok (.goto (-27), 3) := by decide +kernel
theorem dX6_bestPolicy_43 : decode cX6_bestPolicy 43 = .ok (.iload_n 1, 1) := by decide +kernel
theorem dX6_bestPolicy_44 : decode cX6_bestPolicy 44 = .ok (.ireturn, 1) := by decide +kernel
theorem dX6_account_0 : decode cX6_account 0 = .ok (.aload_n 0, 1) := by decide +kernel
theorem dX6_account_1 : decode cX6_account 1 = .ok (.invokevirtual 207, 3) := by decide +kernel
theorem dX6_account_4 : decode cX6_account 4 = .ok (.ifCond .ne 26, 3) := by decide +kernel
theorem dX6_account_7 : decode cX6_account 7 = .ok (.aload_n 0, 1) := by decide +kernel
theorem dX6_account_8 : decode cX6_account 8 = .ok (.iload_n 1, 1) := by decide +kernel
theorem dX6_account_9 : decode cX6_account 9 = .ok (.iconst 0, 1) := by decide +kernel
theorem dX6_account_10 : decode cX6_account 10 = .ok (.bipush 8, 2) := by decide +kernel
theorem dX6_account_12 : decode cX6_account 12 = .ok (.invokestatic 98, 3) := by decide +kernel
theorem dX6_account_15 : decode cX6_account 15 = .ok (.ifCond .ne 7, 3) := by decide +kernel
theorem dX6_account_18 : decode cX6_account 18 = .ok (.iconst 1, 1) := by decide +kernel
theorem dX6_account_19 : decode cX6_account 19 = .ok (.goto 4, 3) := by decide +kernel
theorem dX6_account_22 : decode cX6_account 22 = .ok (.iconst 0, 1) := by decide +kernel
theorem dX6_account_23 : decode cX6_account 23 = .ok (.iconst 2, 1) := by decide +kernel
theorem dX6_account_24 : decode cX6_account 24 = .ok (.invokevirtual 40, 3) := by decide +kernel
theorem dX6_account_27 : decode cX6_account 27 = .ok (.ifCond .eq 7, 3) := by decide +kernel
theorem dX6_account_30 : decode cX6_account 30 = .ok (.iconst 0, 1) := by decide +kernel
theorem dX6_account_31 : decode cX6_account 31 = .ok (.goto 13, 3) := by decide +kernel
theorem dX6_account_34 : decode cX6_account 34 = .ok (.aload_n 0, 1) := by decide +kernel
theorem dX6_account_35 : decode cX6_account 35 = .ok (.getfield 7, 3) := by decide +kernel
theorem dX6_account_38 : decode cX6_account 38 = .ok (.sipush 390, 3) := by decide +kernel
theorem dX6_account_41 : decode cX6_account 41 = .ok (.iload_n 1, 1) := by decide +kernel
theorem dX6_account_42 : decode cX6_account 42 = .ok (.iadd, 1) := by decide +kernel
theorem dX6_account_43 : decode cX6_account 43 = .ok (.iaload, 1) := by decide +kernel
theorem dX6_account_44 : decode cX6_account 44 = .ok (.ireturn, 1) := by decide +kernel
theorem dX6_meanHops_0 : decode cX6_meanHops 0 = .ok (.aload_n 0, 1) := by decide +kernel
theorem dX6_meanHops_1 : decode cX6_meanHops 1 = .ok (.invokevirtual 207, 3) := by decide +kernel
theorem dX6_meanHops_4 : decode cX6_meanHops 4 = .ok (.ifCond .ne 14, 3) := by decide +kernel
theorem dX6_meanHops_7 : decode cX6_meanHops 7 = .ok (.aload_n 0, 1) := by decide +kernel
theorem dX6_meanHops_8 : decode cX6_meanHops 8 = .ok (.getfield 7, 3) := by decide +kernel
theorem dX6_meanHops_11 : decode cX6_meanHops 11 = .ok (.sipush 398, 3) := by decide +kernel
theorem dX6_meanHops_14 : decode cX6_meanHops 14 = .ok (.iaload, 1) := by decide +kernel
theorem dX6_meanHops_15 : decode cX6_meanHops 15 = .ok (.ifCond .ne 7, 3) := by decide +kernel
theorem dX6_meanHops_18 : decode cX6_meanHops 18 = .ok (.dconst 0, 1) := by decide +kernel
theorem dX6_meanHops_19 : decode cX6_meanHops 19 = .ok (.goto 22, 3) := by decide +kernel
theorem dX6_meanHops_22 : decode cX6_meanHops 22 = .ok (.aload_n 0, 1) := by decide +kernel
theorem dX6_meanHops_23 : decode cX6_meanHops 23 = .ok (.getfield 7, 3) := by decide +kernel
theorem dX6_meanHops_26 : decode cX6_meanHops 26 = .ok (.sipush 396, 3) := by decide +kernel
theorem dX6_meanHops_29 : decode cX6_meanHops 29 = .ok (.iaload, 1) := by decide +kernel
theorem dX6_meanHops_30 : decode cX6_meanHops 30 = .ok (.i2d, 1) := by decide +kernel
theorem dX6_meanHops_31 : decode cX6_meanHops 31 = .ok (.aload_n 0, 1) := by decide +kernel
theorem dX6_meanHops_32 : decode cX6_meanHops 32 = .ok (.getfield 7, 3) := by decide +kernel
theorem dX6_meanHops_35 : decode cX6_meanHops 35 = .ok (.sipush 398, 3) := by decide +kernel
theorem dX6_meanHops_38 : decode cX6_meanHops 38 = .ok (.iaload, 1) := by decide +kernel
theorem dX6_meanHops_39 : decode cX6_meanHops 39 = .ok (.i2d, 1) := by decide +kernel
theorem dX6_meanHops_40 : decode cX6_meanHops 40 = .ok (.ddiv, 1) := by decide +kernel
theorem dX6_meanHops_41 : decode cX6_meanHops 41 = .ok (.dreturn, 1) := by decide +kernel
theorem dX6_idleShare_0 : decode cX6_idleShare 0 = .ok (.aload_n 0, 1) := by decide +kernel
theorem dX6_idleShare_1 : decode cX6_idleShare 1 = .ok (.invokevirtual 207, 3) := by decide +kernel
theorem dX6_idleShare_4 : decode cX6_idleShare 4 = .ok (.ifCond .eq 5, 3) := by decide +kernel
theorem dX6_idleShare_7 : decode cX6_idleShare 7 = .ok (.fconst 0, 1) := by decide +kernel
theorem dX6_idleShare_8 : decode cX6_idleShare 8 = .ok (.freturn, 1) := by decide +kernel
theorem dX6_idleShare_9 : decode cX6_idleShare 9 = .ok (.aload_n 0, 1) := by decide +kernel
theorem dX6_idleShare_10 : decode cX6_idleShare 10 = .ok (.getfield 7, 3) := by decide +kernel
theorem dX6_idleShare_13 : decode cX6_idleShare 13 = .ok (.sipush 392, 3) := by decide +kernel
theorem dX6_idleShare_16 : decode cX6_idleShare 16 = .ok (.iaload, 1) := by decide +kernel
theorem dX6_idleShare_17 : decode cX6_idleShare 17 = .ok (.aload_n 0, 1) := by decide +kernel
theorem dX6_idleShare_18 : decode cX6_idleShare 18 = .ok (.getfield 7, 3) := by decide +kernel
theorem dX6_idleShare_21 : decode cX6_idleShare 21 = .ok (.sipush 393, 3) := by decide +kernel
theorem dX6_idleShare_24 : decode cX6_idleShare 24 = .ok (.iaload, 1) := by decide +kernel
theorem dX6_idleShare_25 : decode cX6_idleShare 25 = .ok (.iadd, 1) := by decide +kernel
theorem dX6_idleShare_26 : decode cX6_idleShare 26 = .ok (.aload_n 0, 1) := by decide +kernel
theorem dX6_idleShare_27 : decode cX6_idleShare 27 = .ok (.getfield 7, 3) := by decide +kernel
theorem dX6_idleShare_30 : decode cX6_idleShare 30 = .ok (.sipush 394, 3) := by decide +kernel
theorem dX6_idleShare_33 : decode cX6_idleShare 33 = .ok (.iaload, 1) := by decide +kernel
theorem dX6_idleShare_34 : decode cX6_idleShare 34 = .ok (.iadd, 1) := by decide +kernel
theorem dX6_idleShare_35 : decode cX6_idleShare 35 = .ok (.istore_n 1, 1) := by decide +kernel
theorem dX6_idleShare_36 : decode cX6_idleShare 36 = .ok (.iload_n 1, 1) := by decide +kernel
theorem dX6_idleShare_37 : decode cX6_idleShare 37 = .ok (.ifCond .ne 7, 3) := by decide +kernel
theorem dX6_idleShare_40 : decode cX6_idleShare 40 = .ok (.fconst 0, 1) := by decide +kernel
theorem dX6_idleShare_41 : decode cX6_idleShare 41 = .ok (.goto 15, 3) := by decide +kernel
theorem dX6_idleShare_44 : decode cX6_idleShare 44 = .ok (.aload_n 0, 1) := by decide +kernel
theorem dX6_idleShare_45 : decode cX6_idleShare 45 = .ok (.getfield 7, 3) := by decide +kernel
theorem dX6_idleShare_48 : decode cX6_idleShare 48 = .ok (.sipush 392, 3) := by decide +kernel
theorem dX6_idleShare_51 : decode cX6_idleShare 51 = .ok (.iaload, 1) := by decide +kernel
theorem dX6_idleShare_52 : decode cX6_idleShare 52 = .ok (.i2f, 1) := by decide +kernel
theorem dX6_idleShare_53 : decode cX6_idleShare 53 = .ok (.iload_n 1, 1) := by decide +kernel
theorem dX6_idleShare_54 : decode cX6_idleShare 54 = .ok (.i2f, 1) := by decide +kernel
theorem dX6_idleShare_55 : decode cX6_idleShare 55 = .ok (.fdiv, 1) := by decide +kernel
theorem dX6_idleShare_56 : decode cX6_idleShare 56 = .ok (.freturn, 1) := by decide +kernel
theorem dX6_event_0 : decode cX6_event 0 = .ok (.aload_n 0, 1) := by decide +kernel
theorem dX6_event_1 : decode cX6_event 1 = .ok (.invokevirtual 207, 3) := by decide +kernel
theorem dX6_event_4 : decode cX6_event 4 = .ok (.ifCond .ne 56, 3) := by decide +kernel
theorem dX6_event_7 : decode cX6_event 7 = .ok (.aload_n 0, 1) := by decide +kernel
theorem dX6_event_8 : decode cX6_event 8 = .ok (.iload_n 1, 1) := by decide +kernel
theorem dX6_event_9 : decode cX6_event 9 = .ok (.iconst 0, 1) := by decide +kernel
theorem dX6_event_10 : decode cX6_event 10 = .ok (.aload_n 0, 1) := by decide +kernel
theorem dX6_event_11 : decode cX6_event 11 = .ok (.getfield 7, 3) := by decide +kernel
theorem dX6_event_14 : decode cX6_event 14 = .ok (.sipush 399, 3) := by decide +kernel
theorem dX6_event_17 : decode cX6_event 17 = .ok (.iaload, 1) := by decide +kernel
theorem dX6_event_18 : decode cX6_event 18 = .ok (.iconst 1, 1) := by decide +kernel
theorem dX6_event_19 : decode cX6_event 19 = .ok (.isub, 1) := by decide +kernel
theorem dX6_event_20 : decode cX6_event 20 = .ok (.invokestatic 98, 3) := by decide +kernel
theorem dX6_event_23 : decode cX6_event 23 = .ok (.ifCond .ne 7, 3) := by decide +kernel
theorem dX6_event_26 : decode cX6_event 26 = .ok (.iconst 1, 1) := by decide +kernel
theorem dX6_event_27 : decode cX6_event 27 = .ok (.goto 4, 3) := by decide +kernel
theorem dX6_event_30 : decode cX6_event 30 = .ok (.iconst 0, 1) := by decide +kernel
theorem dX6_event_31 : decode cX6_event 31 = .ok (.iconst 2, 1) := by decide +kernel
theorem dX6_event_32 : decode cX6_event 32 = .ok (.invokevirtual 40, 3) := by decide +kernel
theorem dX6_event_35 : decode cX6_event 35 = .ok (.ifCond .ne 25, 3) := by decide +kernel
theorem dX6_event_38 : decode cX6_event 38 = .ok (.aload_n 0, 1) := by decide +kernel
theorem dX6_event_39 : decode cX6_event 39 = .ok (.iload_n 2, 1) := by decide +kernel
theorem dX6_event_40 : decode cX6_event 40 = .ok (.iconst 0, 1) := by decide +kernel
theorem dX6_event_41 : decode cX6_event 41 = .ok (.iconst 2, 1) := by decide +kernel
theorem dX6_event_42 : decode cX6_event 42 = .ok (.invokestatic 98, 3) := by decide +kernel
theorem dX6_event_45 : decode cX6_event 45 = .ok (.ifCond .ne 7, 3) := by decide +kernel
theorem dX6_event_48 : decode cX6_event 48 = .ok (.iconst 1, 1) := by decide +kernel
theorem dX6_event_49 : decode cX6_event 49 = .ok (.goto 4, 3) := by decide +kernel
theorem dX6_event_52 : decode cX6_event 52 = .ok (.iconst 0, 1) := by decide +kernel
theorem dX6_event_53 : decode cX6_event 53 = .ok (.iconst 3, 1) := by decide +kernel
theorem dX6_event_54 : decode cX6_event 54 = .ok (.invokevirtual 40, 3) := by decide +kernel
theorem dX6_event_57 : decode cX6_event 57 = .ok (.ifCond .eq 7, 3) := by decide +kernel
theorem dX6_event_60 : decode cX6_event 60 = .ok (.iconst 0, 1) := by decide +kernel
theorem dX6_event_61 : decode cX6_event 61 = .ok (.goto 17, 3) := by decide +kernel
theorem dX6_event_64 : decode cX6_event 64 = .ok (.aload_n 0, 1) := by decide +kernel
theorem dX6_event_65 : decode cX6_event 65 = .ok (.getfield 7, 3) := by decide +kernel
theorem dX6_event_68 : decode cX6_event 68 = .ok (.sipush 400, 3) := by decide +kernel
theorem dX6_event_71 : decode cX6_event 71 = .ok (.iconst 3, 1) := by decide +kernel
theorem dX6_event_72 : decode cX6_event 72 = .ok (.iload_n 1, 1) := by decide +kernel
theorem dX6_event_73 : decode cX6_event 73 = .ok (.imul, 1) := by decide +kernel
theorem dX6_event_74 : decode cX6_event 74 = .ok (.iadd, 1) := by decide +kernel
theorem dX6_event_75 : decode cX6_event 75 = .ok (.iload_n 2, 1) := by decide +kernel
theorem dX6_event_76 : decode cX6_event 76 = .ok (.iadd, 1) := by decide +kernel
theorem dX6_event_77 : decode cX6_event 77 = .ok (.iaload, 1) := by decide +kernel
theorem dX6_event_78 : decode cX6_event 78 = .ok (.ireturn, 1) := by decide +kernel
theorem dX6_says_0 : decode cX6_says 0 = .ok (.aload_n 0, 1) := by decide +kernel
theorem dX6_says_1 : decode cX6_says 1 = .ok (.getfield 30, 3) := by decide +kernel
theorem dX6_says_4 : decode cX6_says 4 = .ok (.aload_n 0, 1) := by decide +kernel
theorem dX6_says_5 : decode cX6_says 5 = .ok (.getfield 307, 3) := by decide +kernel
theorem dX6_says_8 : decode cX6_says 8 = .ok (.iload_n 1, 1) := by decide +kernel
theorem dX6_says_9 : decode cX6_says 9 = .ok (.iastore, 1) := by decide +kernel
theorem dX6_says_10 : decode cX6_says 10 = .ok (.aload_n 0, 1) := by decide +kernel
theorem dX6_says_11 : decode cX6_says 11 = .ok (.dup, 1) := by decide +kernel
theorem dX6_says_12 : decode cX6_says 12 = .ok (.getfield 307, 3) := by decide +kernel
theorem dX6_says_15 : decode cX6_says 15 = .ok (.iconst 1, 1) := by decide +kernel
theorem dX6_says_16 : decode cX6_says 16 = .ok (.iadd, 1) := by decide +kernel
theorem dX6_says_17 : decode cX6_says 17 = .ok (.putfield 307, 3) := by decide +kernel
theorem dX6_says_20 : decode cX6_says 20 = .ok (.return_, 1) := by decide +kernel
theorem dX6_saysNumber_0 : decode cX6_saysNumber 0 = .ok (.iload_n 1, 1) := by decide +kernel
theorem dX6_saysNumber_1 : decode cX6_saysNumber 1 = .ok (.bipush 9, 2) := by decide +kernel
theorem dX6_saysNumber_3 : decode cX6_saysNumber 3 = .ok (.if_icmp .le 11, 3) := by decide +kernel
theorem dX6_saysNumber_6 : decode cX6_saysNumber 6 = .ok (.aload_n 0, 1) := by decide +kernel
theorem dX6_saysNumber_7 : decode cX6_saysNumber 7 = .ok (.iload_n 1, 1) := by decide +kernel
theorem dX6_saysNumber_8 : decode cX6_saysNumber 8 = .ok (.bipush 10, 2) := by decide +kernel
theorem dX6_saysNumber_10 : decode cX6_saysNumber 10 = .ok (.idiv, 1) := by decide +kernel
theorem dX6_saysNumber_11 : decode cX6_saysNumber 11 = .ok (.invokevirtual 310, 3) := by decide +kernel
theorem dX6_saysNumber_14 : decode cX6_saysNumber 14 = .ok (.aload_n 0, 1) := by decide +kernel
theorem dX6_saysNumber_15 : decode cX6_saysNumber 15 = .ok (.bipush 48, 2) := by decide +kernel
theorem dX6_saysNumber_17 : decode cX6_saysNumber 17 = .ok (.iload_n 1, 1) := by decide +kernel
theorem dX6_saysNumber_18 : decode cX6_saysNumber 18 = .ok (.bipush 10, 2) := by decide +kernel
theorem dX6_saysNumber_20 : decode cX6_saysNumber 20 = .ok (.irem, 1) := by decide +kernel
theorem dX6_saysNumber_21 : decode cX6_saysNumber 21 = .ok (.iadd, 1) := by decide +kernel
theorem dX6_saysNumber_22 : decode cX6_saysNumber 22 = .ok (.invokevirtual 313, 3) := by decide +kernel
theorem dX6_saysNumber_25 : decode cX6_saysNumber 25 = .ok (.return_, 1) := by decide +kernel
theorem dX6_writeDebts_0 : decode cX6_writeDebts 0 = .ok (.aload_n 0, 1) := by decide +kernel
theorem dX6_writeDebts_1 : decode cX6_writeDebts 1 = .ok (.invokevirtual 207, 3) := by decide +kernel
theorem dX6_writeDebts_4 : decode cX6_writeDebts 4 = .ok (.ifCond .eq 5, 3) := by decide +kernel
theorem dX6_writeDebts_7 : decode cX6_writeDebts 7 = .ok (.iconst 0, 1) := by decide +kernel
theorem dX6_writeDebts_8 : decode cX6_writeDebts 8 = .ok (.ireturn, 1) := by decide +kernel
theorem dX6_writeDebts_9 : decode cX6_writeDebts 9 = .ok (.aload_n 0, 1) := by decide +kernel
theorem dX6_writeDebts_10 : decode cX6_writeDebts 10 = .ok (.iconst 0, 1) := by decide +kernel
theorem dX6_writeDebts_11 : decode cX6_writeDebts 11 = .ok (.putfield 307, 3) := by decide +kernel
theorem dX6_writeDebts_14 : decode cX6_writeDebts 14 = .ok (.iconst 0, 1) := by decide +kernel
theorem dX6_writeDebts_15 : decode cX6_writeDebts 15 = .ok (.istore_n 1, 1) := by decide +kernel
theorem dX6_writeDebts_16 : decode cX6_writeDebts 16 = .ok (.iload_n 1, 1) := by decide +kernel
theorem dX6_writeDebts_17 : decode cX6_writeDebts 17 = .ok (.aload_n 0, 1) := by decide +kernel
theorem dX6_writeDebts_18 : decode cX6_writeDebts 18 = .ok (.getfield 126, 3) := by decide +kernel
theorem dX6_writeDebts_21 : decode cX6_writeDebts 21 = .ok (.if_icmp .ge 72, 3) := by decide +kernel
theorem dX6_writeDebts_24 : decode cX6_writeDebts 24 = .ok (.aload_n 0, 1) := by decide +kernel
theorem dX6_writeDebts_25 : decode cX6_writeDebts 25 = .ok (.iload_n 1, 1) := by decide +kernel
theorem dX6_writeDebts_26 : decode cX6_writeDebts 26 = .ok (.invokevirtual 242, 3) := by decide +kernel
theorem dX6_writeDebts_29 : decode cX6_writeDebts 29 = .ok (.ifCond .ne 6, 3) := by decide +kernel
theorem dX6_writeDebts_32 : decode cX6_writeDebts 32 = .ok (.goto 55, 3) := by decide +kernel
theorem dX6_writeDebts_35 : decode cX6_writeDebts 35 = .ok (.aload_n 0, 1) := by decide +kernel
theorem dX6_writeDebts_36 : decode cX6_writeDebts 36 = .ok (.getfield 307, 3) := by decide +kernel
theorem dX6_writeDebts_39 : decode cX6_writeDebts 39 = .ok (.ifCond .le 9, 3) := by decide +kernel
theorem dX6_writeDebts_42 : decode cX6_writeDebts 42 = .ok (.aload_n 0, 1) := by decide +kernel
theorem dX6_writeDebts_43 : decode cX6_writeDebts 43 = .ok (.bipush 44, 2) := by decide +kernel
theorem dX6_writeDebts_45 : decode cX6_writeDebts 45 = .ok (.invokevirtual 313, 3) := by decide +kernel
theorem dX6_writeDebts_48 : decode cX6_writeDebts 48 = .ok (.aload_n 0, 1) := by decide +kernel
theorem dX6_writeDebts_49 : decode cX6_writeDebts 49 = .ok (.iload_n 1, 1) := by decide +kernel
theorem dX6_writeDebts_50 : decode cX6_writeDebts 50 = .ok (.invokevirtual 310, 3) := by decide +kernel
theorem dX6_writeDebts_53 : decode cX6_writeDebts 53 = .ok (.aload_n 0, 1) := by decide +kernel
theorem dX6_writeDebts_54 : decode cX6_writeDebts 54 = .ok (.bipush 120, 2) := by decide +kernel
theorem dX6_writeDebts_56 : decode cX6_writeDebts 56 = .ok (.invokevirtual 313, 3) := by decide +kernel
theorem dX6_writeDebts_59 : decode cX6_writeDebts 59 = .ok (.aload_n 0, 1) := by decide +kernel
theorem dX6_writeDebts_60 : decode cX6_writeDebts 60 = .ok (.aload_n 0, 1) := by decide +kernel
theorem dX6_writeDebts_61 : decode cX6_writeDebts 61 = .ok (.iload_n 1, 1) := by decide +kernel
theorem dX6_writeDebts_62 : decode cX6_writeDebts 62 = .ok (.invokevirtual 248, 3) := by decide +kernel
theorem dX6_writeDebts_65 : decode cX6_writeDebts 65 = .ok (.invokevirtual 310, 3) := by decide +kernel
theorem dX6_writeDebts_68 : decode cX6_writeDebts 68 = .ok (.aload_n 0, 1) := by decide +kernel
theorem dX6_writeDebts_69 : decode cX6_writeDebts 69 = .ok (.bipush 60, 2) := by decide +kernel
theorem dX6_writeDebts_71 : decode cX6_writeDebts 71 = .ok (.invokevirtual 313, 3) := by decide +kernel
theorem dX6_writeDebts_74 : decode cX6_writeDebts 74 = .ok (.aload_n 0, 1) := by decide +kernel
theorem dX6_writeDebts_75 : decode cX6_writeDebts 75 = .ok (.aload_n 0, 1) := by decide +kernel
theorem dX6_writeDebts_76 : decode cX6_writeDebts 76 = .ok (.getfield 7, 3) := by decide +kernel
theorem dX6_writeDebts_79 : decode cX6_writeDebts 79 = .ok (.bipush 96, 2) := by decide +kernel
theorem dX6_writeDebts_81 : decode cX6_writeDebts 81 = .ok (.iload_n 1, 1) := by decide +kernel
theorem dX6_writeDebts_82 : decode cX6_writeDebts 82 = .ok (.iadd, 1) := by decide +kernel
theorem dX6_writeDebts_83 : decode cX6_writeDebts 83 = .ok (.iaload, 1) := by decide +kernel
theorem dX6_writeDebts_84 : decode cX6_writeDebts 84 = .ok (.invokevirtual 310, 3) := by decide +kernel
theorem dX6_writeDebts_87 : decode cX6_writeDebts 87 = .ok (.iinc 1 1, 3) := by decide +kernel
theorem dX6_writeDebts_90 : decode cX6_writeDebts 90 = .ok (.goto (-74), 3) := by decide +kernel
theorem dX6_writeDebts_93 : decode cX6_writeDebts 93 = .ok (.aload_n 0, 1) := by decide +kernel
theorem dX6_writeDebts_94 : decode cX6_writeDebts 94 = .ok (.getfield 307, 3) := by decide +kernel
theorem dX6_writeDebts_97 : decode cX6_writeDebts 97 = .ok (.ifCond .ne 9, 3) := by decide +kernel
theorem dX6_writeDebts_100 : decode cX6_writeDebts 100 = .ok (.aload_n 0, 1) := by decide +kernel
theorem dX6_writeDebts_101 : decode cX6_writeDebts 101 = .ok (.bipush 45, 2) := by decide +kernel
theorem dX6_writeDebts_103 : decode cX6_writeDebts 103 = .ok (.invokevirtual 313, 3) := by decide +kernel
theorem dX6_writeDebts_106 : decode cX6_writeDebts 106 = .ok (.aload_n 0, 1) := by decide +kernel
theorem dX6_writeDebts_107 : decode cX6_writeDebts 107 = .ok (.getfield 307, 3) := by decide +kernel
theorem dX6_writeDebts_110 : decode cX6_writeDebts 110 = .ok (.ireturn, 1) := by decide +kernel
theorem dX6_writeChain_0 : decode cX6_writeChain 0 = .ok (.aload_n 0, 1) := by decide +kernel
theorem dX6_writeChain_1 : decode cX6_writeChain 1 = .ok (.iload_n 1, 1) := by decide +kernel
theorem dX6_writeChain_2 : decode cX6_writeChain 2 = .ok (.invokevirtual 223, 3) := by decide +kernel
theorem dX6_writeChain_5 : decode cX6_writeChain 5 = .ok (.ifCond .eq 5, 3) := by decide +kernel
theorem dX6_writeChain_8 : decode cX6_writeChain 8 = .ok (.iconst 0, 1) := by decide +kernel
theorem dX6_writeChain_9 : decode cX6_writeChain 9 = .ok (.ireturn, 1) := by decide +kernel
theorem dX6_writeChain_10 : decode cX6_writeChain 10 = .ok (.aload_n 0, 1) := by decide +kernel
theorem dX6_writeChain_11 : decode cX6_writeChain 11 = .ok (.iconst 0, 1) := by decide +kernel
theorem dX6_writeChain_12 : decode cX6_writeChain 12 = .ok (.putfield 307, 3) := by decide +kernel
theorem dX6_writeChain_15 : decode cX6_writeChain 15 = .ok (.aload_n 0, 1) := by decide +kernel
theorem dX6_writeChain_16 : decode cX6_writeChain 16 = .ok (.iload_n 1, 1) := by decide +kernel
theorem dX6_writeChain_17 : decode cX6_writeChain 17 = .ok (.invokevirtual 310, 3) := by decide +kernel
theorem dX6_writeChain_20 : decode cX6_writeChain 20 = .ok (.iload_n 1, 1) := by decide +kernel
theorem dX6_writeChain_21 : decode cX6_writeChain 21 = .ok (.istore_n 2, 1) := by decide +kernel
theorem dX6_writeChain_22 : decode cX6_writeChain 22 = .ok (.aload_n 0, 1) := by decide +kernel
theorem dX6_writeChain_23 : decode cX6_writeChain 23 = .ok (.iload_n 2, 1) := by decide +kernel
theorem dX6_writeChain_24 : decode cX6_writeChain 24 = .ok (.invokevirtual 217, 3) := by decide +kernel
theorem dX6_writeChain_27 : decode cX6_writeChain 27 = .ok (.ifCond .eq 35, 3) := by decide +kernel
theorem dX6_writeChain_30 : decode cX6_writeChain 30 = .ok (.aload_n 0, 1) := by decide +kernel
theorem dX6_writeChain_31 : decode cX6_writeChain 31 = .ok (.bipush 60, 2) := by decide +kernel
theorem dX6_writeChain_33 : decode cX6_writeChain 33 = .ok (.invokevirtual 313, 3) := by decide +kernel
theorem dX6_writeChain_36 : decode cX6_writeChain 36 = .ok (.aload_n 0, 1) := by decide +kernel
theorem dX6_writeChain_37 : decode cX6_writeChain 37 = .ok (.aload_n 0, 1) := by decide +kernel
theorem dX6_writeChain_38 : decode cX6_writeChain 38 = .ok (.getfield 7, 3) := by decide +kernel
theorem dX6_writeChain_41 : decode cX6_writeChain 41 = .ok (.bipush 96, 2) := by decide +kernel
theorem dX6_writeChain_43 : decode cX6_writeChain 43 = .ok (.iload_n 2, 1) := by decide +kernel
theorem dX6_writeChain_44 : decode cX6_writeChain 44 = .ok (.iadd, 1) := by decide +kernel
theorem dX6_writeChain_45 : decode cX6_writeChain 45 = .ok (.iaload, 1) := by decide +kernel
theorem dX6_writeChain_46 : decode cX6_writeChain 46 = .ok (.invokevirtual 310, 3) := by decide +kernel
theorem dX6_writeChain_49 : decode cX6_writeChain 49 = .ok (.aload_n 0, 1) := by decide +kernel
theorem dX6_writeChain_50 : decode cX6_writeChain 50 = .ok (.getfield 7, 3) := by decide +kernel
theorem dX6_writeChain_53 : decode cX6_writeChain 53 = .ok (.bipush 96, 2) := by decide +kernel
theorem dX6_writeChain_55 : decode cX6_writeChain 55 = .ok (.iload_n 2, 1) := by decide +kernel
theorem dX6_writeChain_56 : decode cX6_writeChain 56 = .ok (.iadd, 1) := by decide +kernel
theorem dX6_writeChain_57 : decode cX6_writeChain 57 = .ok (.iaload, 1) := by decide +kernel
theorem dX6_writeChain_58 : decode cX6_writeChain 58 = .ok (.istore_n 2, 1) := by decide +kernel
theorem dX6_writeChain_59 : decode cX6_writeChain 59 = .ok (.goto (-37), 3) := by decide +kernel
theorem dX6_writeChain_62 : decode cX6_writeChain 62 = .ok (.aload_n 0, 1) := by decide +kernel
theorem dX6_writeChain_63 : decode cX6_writeChain 63 = .ok (.bipush 61, 2) := by decide +kernel
theorem dX6_writeChain_65 : decode cX6_writeChain 65 = .ok (.invokevirtual 313, 3) := by decide +kernel
theorem dX6_writeChain_68 : decode cX6_writeChain 68 = .ok (.aload_n 0, 1) := by decide +kernel
theorem dX6_writeChain_69 : decode cX6_writeChain 69 = .ok (.aload_n 0, 1) := by decide +kernel
theorem dX6_writeChain_70 : decode cX6_writeChain 70 = .ok (.iload_n 1, 1) := by decide +kernel
theorem dX6_writeChain_71 : decode cX6_writeChain 71 = .ok (.invokevirtual 226, 3) := by decide +kernel
theorem dX6_writeChain_74 : decode cX6_writeChain 74 = .ok (.invokevirtual 310, 3) := by decide +kernel
theorem dX6_writeChain_77 : decode cX6_writeChain 77 = .ok (.aload_n 0, 1) := by decide +kernel
theorem dX6_writeChain_78 : decode cX6_writeChain 78 = .ok (.getfield 307, 3) := by decide +kernel
theorem dX6_writeChain_81 : decode cX6_writeChain 81 = .ok (.ireturn, 1) := by decide +kernel
theorem dX6_textByte_0 : decode cX6_textByte 0 = .ok (.aload_n 0, 1) := by decide +kernel
theorem dX6_textByte_1 : decode cX6_textByte 1 = .ok (.iconst 0, 1) := by decide +kernel
theorem dX6_textByte_2 : decode cX6_textByte 2 = .ok (.putfield 33, 3) := by decide +kernel
theorem dX6_textByte_5 : decode cX6_textByte 5 = .ok (.aload_n 0, 1) := by decide +kernel
theorem dX6_textByte_6 : decode cX6_textByte 6 = .ok (.iload_n 1, 1) := by decide +kernel
theorem dX6_textByte_7 : decode cX6_textByte 7 = .ok (.iconst 0, 1) := by decide +kernel
theorem dX6_textByte_8 : decode cX6_textByte 8 = .ok (.aload_n 0, 1) := by decide +kernel
theorem dX6_textByte_9 : decode cX6_textByte 9 = .ok (.getfield 307, 3) := by decide +kernel
theorem dX6_textByte_12 : decode cX6_textByte 12 = .ok (.iconst 1, 1) := by decide +kernel
theorem dX6_textByte_13 : decode cX6_textByte 13 = .ok (.isub, 1) := by decide +kernel
theorem dX6_textByte_14 : decode cX6_textByte 14 = .ok (.invokestatic 98, 3) := by decide +kernel
theorem dX6_textByte_17 : decode cX6_textByte 17 = .ok (.ifCond .ne 7, 3) := by decide +kernel
theorem dX6_textByte_20 : decode cX6_textByte 20 = .ok (.iconst 1, 1) := by decide +kernel
theorem dX6_textByte_21 : decode cX6_textByte 21 = .ok (.goto 4, 3) := by decide +kernel
theorem dX6_textByte_24 : decode cX6_textByte 24 = .ok (.iconst 0, 1) := by decide +kernel
theorem dX6_textByte_25 : decode cX6_textByte 25 = .ok (.iconst 1, 1) := by decide +kernel
theorem dX6_textByte_26 : decode cX6_textByte 26 = .ok (.invokevirtual 40, 3) := by decide +kernel
theorem dX6_textByte_29 : decode cX6_textByte 29 = .ok (.ifCond .eq 7, 3) := by decide +kernel
theorem dX6_textByte_32 : decode cX6_textByte 32 = .ok (.iconst 0, 1) := by decide +kernel
theorem dX6_textByte_33 : decode cX6_textByte 33 = .ok (.goto 9, 3) := by decide +kernel
theorem dX6_textByte_36 : decode cX6_textByte 36 = .ok (.aload_n 0, 1) := by decide +kernel
theorem dX6_textByte_37 : decode cX6_textByte 37 = .ok (.getfield 30, 3) := by decide +kernel
theorem dX6_textByte_40 : decode cX6_textByte 40 = .ok (.iload_n 1, 1) := by decide +kernel
theorem dX6_textByte_41 : decode cX6_textByte 41 = .ok (.iaload, 1) := by decide +kernel
theorem dX6_textByte_42 : decode cX6_textByte 42 = .ok (.ireturn, 1) := by decide +kernel
theorem dX6_keeps_0 : decode cX6_keeps 0 = .ok (.iconst 0, 1) := by decide +kernel
theorem dX6_keeps_1 : decode cX6_keeps 1 = .ok (.istore_n 2, 1) := by decide +kernel
theorem dX6_keeps_2 : decode cX6_keeps 2 = .ok (.iload_n 2, 1) := by decide +kernel
theorem dX6_keeps_3 : decode cX6_keeps 3 = .ok (.sipush 640, 3) := by decide +kernel
theorem dX6_keeps_6 : decode cX6_keeps 6 = .ok (.if_icmp .ge 27, 3) := by decide +kernel
theorem dX6_keeps_9 : decode cX6_keeps 9 = .ok (.aload_n 0, 1) := by decide +kernel
theorem dX6_keeps_10 : decode cX6_keeps 10 = .ok (.getfield 13, 3) := by decide +kernel
theorem dX6_keeps_13 : decode cX6_keeps 13 = .ok (.sipush 640, 3) := by decide +kernel
theorem dX6_keeps_16 : decode cX6_keeps 16 = .ok (.iload_n 1, 1) := by decide +kernel
theorem dX6_keeps_17 : decode cX6_keeps 17 = .ok (.imul, 1) := by decide +kernel
theorem dX6_keeps_18 : decode cX6_keeps 18 = .ok (.iload_n 2, 1) := by decide +kernel
theorem dX6_keeps_19 : decode cX6_keeps 19 = .ok (.iadd, 1) := by decide +kernel
theorem dX6_keeps_20 : decode cX6_keeps 20 = .ok (.aload_n 0, 1) := by decide +kernel
theorem dX6_keeps_21 : decode cX6_keeps 21 = .ok (.getfield 7, 3) := by decide +kernel
theorem dX6_keeps_24 : decode cX6_keeps 24 = .ok (.iload_n 2, 1) := by decide +kernel
theorem dX6_keeps_25 : decode cX6_keeps 25 = .ok (.iaload, 1) := by decide +kernel
theorem dX6_keeps_26 : decode cX6_keeps 26 = .ok (.iastore, 1) := by decide +kernel
theorem dX6_keeps_27 : decode cX6_keeps 27 = .ok (.iinc 2 1, 3) := by decide +kernel
theorem dX6_keeps_30 : decode cX6_keeps 30 = .ok (.goto (-28), 3) := by decide +kernel
theorem dX6_keeps_33 : decode cX6_keeps 33 = .ok (.return_, 1) := by decide +kernel
theorem dX6_fetches_0 : decode cX6_fetches 0 = .ok (.iconst 0, 1) := by decide +kernel
theorem dX6_fetches_1 : decode cX6_fetches 1 = .ok (.istore_n 2, 1) := by decide +kernel
theorem dX6_fetches_2 : decode cX6_fetches 2 = .ok (.iload_n 2, 1) := by decide +kernel
theorem dX6_fetches_3 : decode cX6_fetches 3 = .ok (.sipush 640, 3) := by decide +kernel
theorem dX6_fetches_6 : decode cX6_fetches 6 = .ok (.if_icmp .ge 27, 3) := by decide +kernel
theorem dX6_fetches_9 : decode cX6_fetches 9 = .ok (.aload_n 0, 1) := by decide +kernel
theorem dX6_fetches_10 : decode cX6_fetches 10 = .ok (.getfield 7, 3) := by decide +kernel
theorem dX6_fetches_13 : decode cX6_fetches 13 = .ok (.iload_n 2, 1) := by decide +kernel
theorem dX6_fetches_14 : decode cX6_fetches 14 = .ok (.aload_n 0, 1) := by decide +kernel
theorem dX6_fetches_15 : decode cX6_fetches 15 = .ok (.getfield 13, 3) := by decide +kernel
theorem dX6_fetches_18 : decode cX6_fetches 18 = .ok (.sipush 640, 3) := by decide +kernel
theorem dX6_fetches_21 : decode cX6_fetches 21 = .ok (.iload_n 1, 1) := by decide +kernel
theorem dX6_fetches_22 : decode cX6_fetches 22 = .ok (.imul, 1) := by decide +kernel
theorem dX6_fetches_23 : decode cX6_fetches 23 = .ok (.iload_n 2, 1) := by decide +kernel
theorem dX6_fetches_24 : decode cX6_fetches 24 = .ok (.iadd, 1) := by decide +kernel
theorem dX6_fetches_25 : decode cX6_fetches 25 = .ok (.iaload, 1) := by decide +kernel
theorem dX6_fetches_26 : decode cX6_fetches 26 = .ok (.iastore, 1) := by decide +kernel
theorem dX6_fetches_27 : decode cX6_fetches 27 = .ok (.iinc 2 1, 3) := by decide +kernel
theorem dX6_fetches_30 : decode cX6_fetches 30 = .ok (.goto (-28), 3) := by decide +kernel
theorem dX6_fetches_33 : decode cX6_fetches 33 = .ok (.return_, 1) := by decide +kernel
theorem dX6_keepsAll_0 : decode cX6_keepsAll 0 = .ok (.aload_n 0, 1) := by decide +kernel
theorem dX6_keepsAll_1 : decode cX6_keepsAll 1 = .ok (.getfield 204, 3) := by decide +kernel
theorem dX6_keepsAll_4 : decode cX6_keepsAll 4 = .ok (.bipush 8, 2) := by decide +kernel
theorem dX6_keepsAll_6 : decode cX6_keepsAll 6 = .ok (.if_icmp .ne 46, 3) := by decide +kernel
theorem dX6_keepsAll_9 : decode cX6_keepsAll 9 = .ok (.sipush 640, 3) := by decide +kernel
theorem dX6_keepsAll_12 : decode cX6_keepsAll 12 = .ok (.istore_n 1, 1) := by decide +kernel
theorem dX6_keepsAll_13 : decode cX6_keepsAll 13 = .ok (.iload_n 1, 1) := by decide +kernel
theorem dX6_keepsAll_14 : decode cX6_keepsAll 14 = .ok (.sipush 5120, 3) := by decide +kernel
theorem dX6_keepsAll_17 : decode cX6_keepsAll 17 = .ok (.if_icmp .ge 25, 3) := by decide +kernel
theorem dX6_keepsAll_20 : decode cX6_keepsAll 20 = .ok (.aload_n 0, 1) := by decide +kernel
theorem dX6_keepsAll_21 : decode cX6_keepsAll 21 = .ok (.getfield 13, 3) := by decide +kernel
theorem dX6_keepsAll_24 : decode cX6_keepsAll 24 = .ok (.iload_n 1, 1) := by decide +kernel
theorem dX6_keepsAll_25 : decode cX6_keepsAll 25 = .ok (.aload_n 0, 1) := by decide +kernel
theorem dX6_keepsAll_26 : decode cX6_keepsAll 26 = .ok (.getfield 13, 3) := by decide +kernel
theorem dX6_keepsAll_29 : decode cX6_keepsAll 29 = .ok (.iload_n 1, 1) := by decide +kernel
theorem dX6_keepsAll_30 : decode cX6_keepsAll 30 = .ok (.sipush 640, 3) := by decide +kernel
theorem dX6_keepsAll_33 : decode cX6_keepsAll 33 = .ok (.iadd, 1) := by decide +kernel
theorem dX6_keepsAll_34 : decode cX6_keepsAll 34 = .ok (.iaload, 1) := by decide +kernel
theorem dX6_keepsAll_35 : decode cX6_keepsAll 35 = .ok (.iastore, 1) := by decide +kernel
theorem dX6_keepsAll_36 : decode cX6_keepsAll 36 = .ok (.iinc 1 1, 3) := by decide +kernel
theorem dX6_keepsAll_39 : decode cX6_keepsAll 39 = .ok (.goto (-26), 3) := by decide +kernel
theorem dX6_keepsAll_42 : decode cX6_keepsAll 42 = .ok (.aload_n 0, 1) := by decide +kernel
theorem dX6_keepsAll_43 : decode cX6_keepsAll 43 = .ok (.dup, 1) := by decide +kernel
theorem dX6_keepsAll_44 : decode cX6_keepsAll 44 = .ok (.getfield 204, 3) := by decide +kernel
theorem dX6_keepsAll_47 : decode cX6_keepsAll 47 = .ok (.iconst 1, 1) := by decide +kernel
theorem dX6_keepsAll_48 : decode cX6_keepsAll 48 = .ok (.isub, 1) := by decide +kernel
theorem dX6_keepsAll_49 : decode cX6_keepsAll 49 = .ok (.putfield 204, 3) := by decide +kernel
theorem dX6_keepsAll_52 : decode cX6_keepsAll 52 = .ok (.aload_n 0, 1) := by decide +kernel
theorem dX6_keepsAll_53 : decode cX6_keepsAll 53 = .ok (.iconst 1, 1) := by decide +kernel
theorem dX6_keepsAll_54 : decode cX6_keepsAll 54 = .ok (.aload_n 0, 1) := by decide +kernel
theorem dX6_keepsAll_55 : decode cX6_keepsAll 55 = .ok (.getfield 204, 3) := by decide +kernel
theorem dX6_keepsAll_58 : decode cX6_keepsAll 58 = .ok (.iadd, 1) := by decide +kernel
theorem dX6_keepsAll_59 : decode cX6_keepsAll 59 = .ok (.invokevirtual 195, 3) := by decide +kernel
theorem dX6_keepsAll_62 : decode cX6_keepsAll 62 = .ok (.aload_n 0, 1) := by decide +kernel
theorem dX6_keepsAll_63 : decode cX6_keepsAll 63 = .ok (.dup, 1) := by decide +kernel
theorem dX6_keepsAll_64 : decode cX6_keepsAll 64 = .ok (.getfield 204, 3) := by decide +kernel
theorem dX6_keepsAll_67 : decode cX6_keepsAll 67 = .ok (.iconst 1, 1) := by decide +kernel
theorem dX6_keepsAll_68 : decode cX6_keepsAll 68 = .ok (.iadd, 1) := by decide +kernel
theorem dX6_keepsAll_69 : decode cX6_keepsAll 69 = .ok (.putfield 204, 3) := by decide +kernel
theorem dX6_keepsAll_72 : decode cX6_keepsAll 72 = .ok (.return_, 1) := by decide +kernel
theorem dX6_copy_0 : decode cX6_copy 0 = .ok (.aload_n 0, 1) := by decide +kernel
theorem dX6_copy_1 : decode cX6_copy 1 = .ok (.invokevirtual 207, 3) := by decide +kernel
theorem dX6_copy_4 : decode cX6_copy 4 = .ok (.ifCond .ne 26, 3) := by decide +kernel
theorem dX6_copy_7 : decode cX6_copy 7 = .ok (.aload_n 0, 1) := by decide +kernel
theorem dX6_copy_8 : decode cX6_copy 8 = .ok (.aload_n 0, 1) := by decide +kernel
theorem dX6_copy_9 : decode cX6_copy 9 = .ok (.iload_n 1, 1) := by decide +kernel
theorem dX6_copy_10 : decode cX6_copy 10 = .ok (.iload_n 2, 1) := by decide +kernel
theorem dX6_copy_11 : decode cX6_copy 11 = .ok (.iload_n 3, 1) := by decide +kernel
theorem dX6_copy_12 : decode cX6_copy 12 = .ok (.invokevirtual 135, 3) := by decide +kernel
theorem dX6_copy_15 : decode cX6_copy 15 = .ok (.ifCond .eq 7, 3) := by decide +kernel
theorem dX6_copy_18 : decode cX6_copy 18 = .ok (.iconst 1, 1) := by decide +kernel
theorem dX6_copy_19 : decode cX6_copy 19 = .ok (.goto 4, 3) := by decide +kernel
theorem dX6_copy_22 : decode cX6_copy 22 = .ok (.iconst 0, 1) := by decide +kernel
theorem dX6_copy_23 : decode cX6_copy 23 = .ok (.iconst 2, 1) := by decide +kernel
theorem dX6_copy_24 : decode cX6_copy 24 = .ok (.invokevirtual 40, 3) := by decide +kernel
theorem dX6_copy_27 : decode cX6_copy 27 = .ok (.ifCond .eq 5, 3) := by decide +kernel
theorem dX6_copy_30 : decode cX6_copy 30 = .ok (.iconst 0, 1) := by decide +kernel
theorem dX6_copy_31 : decode cX6_copy 31 = .ok (.ireturn, 1) := by decide +kernel
theorem dX6_copy_32 : decode cX6_copy 32 = .ok (.aload_n 0, 1) := by decide +kernel
theorem dX6_copy_33 : decode cX6_copy 33 = .ok (.invokevirtual 316, 3) := by decide +kernel
theorem dX6_copy_36 : decode cX6_copy 36 = .ok (.aload_n 0, 1) := by decide +kernel
theorem dX6_copy_37 : decode cX6_copy 37 = .ok (.iload_n 1, 1) := by decide +kernel
theorem dX6_copy_38 : decode cX6_copy 38 = .ok (.iload_n 2, 1) := by decide +kernel
theorem dX6_copy_39 : decode cX6_copy 39 = .ok (.iload_n 3, 1) := by decide +kernel
theorem dX6_copy_40 : decode cX6_copy 40 = .ok (.invokevirtual 139, 3) := by decide +kernel
theorem dX6_copy_43 : decode cX6_copy 43 = .ok (.aload_n 0, 1) := by decide +kernel
theorem dX6_copy_44 : decode cX6_copy 44 = .ok (.getfield 7, 3) := by decide +kernel
theorem dX6_copy_47 : decode cX6_copy 47 = .ok (.sipush 389, 3) := by decide +kernel
theorem dX6_copy_50 : decode cX6_copy 50 = .ok (.iaload, 1) := by decide +kernel
theorem dX6_copy_51 : decode cX6_copy 51 = .ok (.iconst 1, 1) := by decide +kernel
theorem dX6_copy_52 : decode cX6_copy 52 = .ok (.isub, 1) := by decide +kernel
theorem dX6_copy_53 : decode cX6_copy 53 = .ok (.ireturn, 1) := by decide +kernel
theorem dX6_write_0 : decode cX6_write 0 = .ok (.aload_n 0, 1) := by decide +kernel
theorem dX6_write_1 : decode cX6_write 1 = .ok (.iload_n 1, 1) := by decide +kernel
theorem dX6_write_2 : decode cX6_write 2 = .ok (.invokevirtual 223, 3) := by decide +kernel
theorem dX6_write_5 : decode cX6_write 5 = .ok (.ifCond .ne 41, 3) := by decide +kernel
theorem dX6_write_8 : decode cX6_write 8 = .ok (.aload_n 0, 1) := by decide +kernel
theorem dX6_write_9 : decode cX6_write 9 = .ok (.iload_n 2, 1) := by decide +kernel
theorem dX6_write_10 : decode cX6_write 10 = .ok (.iconst 0, 1) := by decide +kernel
theorem dX6_write_11 : decode cX6_write 11 = .ok (.sipush 255, 3) := by decide +kernel
theorem dX6_write_14 : decode cX6_write 14 = .ok (.invokestatic 98, 3) := by decide +kernel
theorem dX6_write_17 : decode cX6_write 17 = .ok (.ifCond .eq 17, 3) := by decide +kernel
theorem dX6_write_20 : decode cX6_write 20 = .ok (.aload_n 0, 1) := by decide +kernel
theorem dX6_write_21 : decode cX6_write 21 = .ok (.getfield 7, 3) := by decide +kernel
theorem dX6_write_24 : decode cX6_write 24 = .ok (.sipush 288, 3) := by decide +kernel
theorem dX6_write_27 : decode cX6_write 27 = .ok (.iload_n 1, 1) := by decide +kernel
theorem dX6_write_28 : decode cX6_write 28 = .ok (.iadd, 1) := by decide +kernel
theorem dX6_write_29 : decode cX6_write 29 = .ok (.iaload, 1) := by decide +kernel
theorem dX6_write_30 : decode cX6_write 30 = .ok (.iconst 1, 1) := by decide +kernel
theorem dX6_write_31 : decode cX6_write 31 = .ok (.if_icmp .ne 7, 3) := by decide +kernel
theorem dX6_write_34 : decode cX6_write 34 = .ok (.iconst 1, 1) := by decide +kernel
theorem dX6_write_35 : decode cX6_write 35 = .ok (.goto 4, 3) := by decide +kernel
theorem dX6_write_38 : decode cX6_write 38 = .ok (.iconst 0, 1) := by decide +kernel
theorem dX6_write_39 : decode cX6_write 39 = .ok (.iconst 3, 1) := by decide +kernel
theorem dX6_write_40 : decode cX6_write 40 = .ok (.invokevirtual 40, 3) := by decide +kernel
theorem dX6_write_43 : decode cX6_write 43 = .ok (.ifCond .eq 5, 3) := by decide +kernel
theorem dX6_write_46 : decode cX6_write 46 = .ok (.iconst 0, 1) := by decide +kernel
theorem dX6_write_47 : decode cX6_write 47 = .ok (.ireturn, 1) := by decide +kernel
theorem dX6_write_48 : decode cX6_write 48 = .ok (.aload_n 0, 1) := by decide +kernel
theorem dX6_write_49 : decode cX6_write 49 = .ok (.invokevirtual 316, 3) := by decide +kernel
theorem dX6_write_52 : decode cX6_write 52 = .ok (.aload_n 0, 1) := by decide +kernel
theorem dX6_write_53 : decode cX6_write 53 = .ok (.iload_n 1, 1) := by decide +kernel
theorem dX6_write_54 : decode cX6_write 54 = .ok (.iload_n 1, 1) := by decide +kernel
theorem dX6_write_55 : decode cX6_write 55 = .ok (.iload_n 2, 1) := by decide +kernel
theorem dX6_write_56 : decode cX6_write 56 = .ok (.invokevirtual 150, 3) := by decide +kernel
theorem dX6_write_59 : decode cX6_write 59 = .ok (.ireturn, 1) := by decide +kernel
theorem dX6_exchange_0 : decode cX6_exchange 0 = .ok (.aload_n 0, 1) := by decide +kernel
theorem dX6_exchange_1 : decode cX6_exchange 1 = .ok (.iload_n 1, 1) := by decide +kernel
theorem dX6_exchange_2 : decode cX6_exchange 2 = .ok (.invokevirtual 223, 3) := by decide +kernel
theorem dX6_exchange_5 : decode cX6_exchange 5 = .ok (.ifCond .ne 70, 3) := by decide +kernel
theorem dX6_exchange_8 : decode cX6_exchange 8 = .ok (.aload_n 0, 1) := by decide +kernel
theorem dX6_exchange_9 : decode cX6_exchange 9 = .ok (.aload_n 0, 1) := by decide +kernel
theorem dX6_exchange_10 : decode cX6_exchange 10 = .ok (.iload_n 2, 1) := by decide +kernel
theorem dX6_exchange_11 : decode cX6_exchange 11 = .ok (.invokevirtual 211, 3) := by decide +kernel
theorem dX6_exchange_14 : decode cX6_exchange 14 = .ok (.ifCond .ne 7, 3) := by decide +kernel
theorem dX6_exchange_17 : decode cX6_exchange 17 = .ok (.iconst 1, 1) := by decide +kernel
theorem dX6_exchange_18 : decode cX6_exchange 18 = .ok (.goto 4, 3) := by decide +kernel
theorem dX6_exchange_21 : decode cX6_exchange 21 = .ok (.iconst 0, 1) := by decide +kernel
theorem dX6_exchange_22 : decode cX6_exchange 22 = .ok (.iconst 2, 1) := by decide +kernel
theorem dX6_exchange_23 : decode cX6_exchange 23 = .ok (.invokevirtual 40, 3) := by decide +kernel
theorem dX6_exchange_26 : decode cX6_exchange 26 = .ok (.ifCond .ne 49, 3) := by decide +kernel
theorem dX6_exchange_29 : decode cX6_exchange 29 = .ok (.aload_n 0, 1) := by decide +kernel
theorem dX6_exchange_30 : decode cX6_exchange 30 = .ok (.iload_n 1, 1) := by decide +kernel
theorem dX6_exchange_31 : decode cX6_exchange 31 = .ok (.iload_n 2, 1) := by decide +kernel
theorem dX6_exchange_32 : decode cX6_exchange 32 = .ok (.if_icmp .eq 31, 3) := by decide +kernel
theorem dX6_exchange_35 : decode cX6_exchange 35 = .ok (.aload_n 0, 1) := by decide +kernel
theorem dX6_exchange_36 : decode cX6_exchange 36 = .ok (.getfield 7, 3) := by decide +kernel
theorem dX6_exchange_39 : decode cX6_exchange 39 = .ok (.sipush 288, 3) := by decide +kernel
theorem dX6_exchange_42 : decode cX6_exchange 42 = .ok (.iload_n 1, 1) := by decide +kernel
theorem dX6_exchange_43 : decode cX6_exchange 43 = .ok (.iadd, 1) := by decide +kernel
theorem dX6_exchange_44 : decode cX6_exchange 44 = .ok (.iaload, 1) := by decide +kernel
theorem dX6_exchange_45 : decode cX6_exchange 45 = .ok (.iconst 1, 1) := by decide +kernel
theorem dX6_exchange_46 : decode cX6_exchange 46 = .ok (.if_icmp .eq 17, 3) := by decide +kernel
theorem dX6_exchange_49 : decode cX6_exchange 49 = .ok (.aload_n 0, 1) := by decide +kernel
theorem dX6_exchange_50 : decode cX6_exchange 50 = .ok (.getfield 7, 3) := by decide +kernel
theorem dX6_exchange_53 : decode cX6_exchange 53 = .ok (.sipush 288, 3) := by decide +kernel
theorem dX6_exchange_56 : decode cX6_exchange 56 = .ok (.iload_n 2, 1) := by decide +kernel
theorem dX6_exchange_57 : decode cX6_exchange 57 = .ok (.iadd, 1) := by decide +kernel
theorem dX6_exchange_58 : decode cX6_exchange 58 = .ok (.iaload, 1) := by decide +kernel
theorem dX6_exchange_59 : decode cX6_exchange 59 = .ok (.iconst 1, 1) := by decide +kernel
theorem dX6_exchange_60 : decode cX6_exchange 60 = .ok (.if_icmp .ne 7, 3) := by decide +kernel
theorem dX6_exchange_63 : decode cX6_exchange 63 = .ok (.iconst 1, 1) := by decide +kernel
theorem dX6_exchange_64 : decode cX6_exchange 64 = .ok (.goto 4, 3) := by decide +kernel
theorem dX6_exchange_67 : decode cX6_exchange 67 = .ok (.iconst 0, 1) := by decide +kernel
theorem dX6_exchange_68 : decode cX6_exchange 68 = .ok (.iconst 3, 1) := by decide +kernel
theorem dX6_exchange_69 : decode cX6_exchange 69 = .ok (.invokevirtual 40, 3) := by decide +kernel
theorem dX6_exchange_72 : decode cX6_exchange 72 = .ok (.ifCond .eq 5, 3) := by decide +kernel
theorem dX6_exchange_75 : decode cX6_exchange 75 = .ok (.iconst 0, 1) := by decide +kernel
theorem dX6_exchange_76 : decode cX6_exchange 76 = .ok (.ireturn, 1) := by decide +kernel
theorem dX6_exchange_77 : decode cX6_exchange 77 = .ok (.aload_n 0, 1) := by decide +kernel
theorem dX6_exchange_78 : decode cX6_exchange 78 = .ok (.invokevirtual 316, 3) := by decide +kernel
theorem dX6_exchange_81 : decode cX6_exchange 81 = .ok (.aload_n 0, 1) := by decide +kernel
theorem dX6_exchange_82 : decode cX6_exchange 82 = .ok (.iload_n 1, 1) := by decide +kernel
theorem dX6_exchange_83 : decode cX6_exchange 83 = .ok (.iload_n 2, 1) := by decide +kernel
theorem dX6_exchange_84 : decode cX6_exchange 84 = .ok (.invokevirtual 319, 3) := by decide +kernel
theorem dX6_exchange_87 : decode cX6_exchange 87 = .ok (.ireturn, 1) := by decide +kernel
theorem dX6_move_0 : decode cX6_move 0 = .ok (.aload_n 0, 1) := by decide +kernel
theorem dX6_move_1 : decode cX6_move 1 = .ok (.invokevirtual 207, 3) := by decide +kernel
theorem dX6_move_4 : decode cX6_move 4 = .ok (.ifCond .ne 26, 3) := by decide +kernel
theorem dX6_move_7 : decode cX6_move 7 = .ok (.aload_n 0, 1) := by decide +kernel
theorem dX6_move_8 : decode cX6_move 8 = .ok (.aload_n 0, 1) := by decide +kernel
theorem dX6_move_9 : decode cX6_move 9 = .ok (.iload_n 1, 1) := by decide +kernel
theorem dX6_move_10 : decode cX6_move 10 = .ok (.iload_n 2, 1) := by decide +kernel
theorem dX6_move_11 : decode cX6_move 11 = .ok (.iload_n 3, 1) := by decide +kernel
theorem dX6_move_12 : decode cX6_move 12 = .ok (.invokevirtual 135, 3) := by decide +kernel
theorem dX6_move_15 : decode cX6_move 15 = .ok (.ifCond .eq 7, 3) := by decide +kernel
theorem dX6_move_18 : decode cX6_move 18 = .ok (.iconst 1, 1) := by decide +kernel
theorem dX6_move_19 : decode cX6_move 19 = .ok (.goto 4, 3) := by decide +kernel
theorem dX6_move_22 : decode cX6_move 22 = .ok (.iconst 0, 1) := by decide +kernel
theorem dX6_move_23 : decode cX6_move 23 = .ok (.iconst 2, 1) := by decide +kernel
theorem dX6_move_24 : decode cX6_move 24 = .ok (.invokevirtual 40, 3) := by decide +kernel
theorem dX6_move_27 : decode cX6_move 27 = .ok (.ifCond .eq 5, 3) := by decide +kernel
theorem dX6_move_30 : decode cX6_move 30 = .ok (.iconst 0, 1) := by decide +kernel
theorem dX6_move_31 : decode cX6_move 31 = .ok (.ireturn, 1) := by decide +kernel
theorem dX6_move_32 : decode cX6_move 32 = .ok (.iload_n 1, 1) := by decide +kernel
theorem dX6_move_33 : decode cX6_move 33 = .ok (.iload_n 2, 1) := by decide +kernel
theorem dX6_move_34 : decode cX6_move 34 = .ok (.iload_n 3, 1) := by decide +kernel
theorem dX6_move_35 : decode cX6_move 35 = .ok (.invokestatic 322, 3) := by decide +kernel
theorem dX6_move_38 : decode cX6_move 38 = .ok (.istore 4, 2) := by decide +kernel
theorem dX6_move_40 : decode cX6_move 40 = .ok (.iload_n 1, 1) := by decide +kernel
theorem dX6_move_41 : decode cX6_move 41 = .ok (.iload_n 2, 1) := by decide +kernel
theorem dX6_move_42 : decode cX6_move 42 = .ok (.iload_n 3, 1) := by decide +kernel
theorem dX6_move_43 : decode cX6_move 43 = .ok (.invokestatic 325, 3) := by decide +kernel
theorem dX6_move_46 : decode cX6_move 46 = .ok (.istore 5, 2) := by decide +kernel
theorem dX6_move_48 : decode cX6_move 48 = .ok (.aload_n 0, 1) := by decide +kernel
theorem dX6_move_49 : decode cX6_move 49 = .ok (.aload_n 0, 1) := by decide +kernel
theorem dX6_move_50 : decode cX6_move 50 = .ok (.iload 4, 2) := by decide +kernel
theorem dX6_move_52 : decode cX6_move 52 = .ok (.iload 5, 2) := by decide +kernel
theorem dX6_move_54 : decode cX6_move 54 = .ok (.invokevirtual 146, 3) := by decide +kernel
theorem dX6_move_57 : decode cX6_move 57 = .ok (.iconst 2, 1) := by decide +kernel
theorem dX6_move_58 : decode cX6_move 58 = .ok (.invokevirtual 40, 3) := by decide +kernel
theorem dX6_move_61 : decode cX6_move 61 = .ok (.ifCond .eq 5, 3) := by decide +kernel
theorem dX6_move_64 : decode cX6_move 64 = .ok (.iconst 0, 1) := by decide +kernel
theorem dX6_move_65 : decode cX6_move 65 = .ok (.ireturn, 1) := by decide +kernel
theorem dX6_move_66 : decode cX6_move 66 = .ok (.aload_n 0, 1) := by decide +kernel
theorem dX6_move_67 : decode cX6_move 67 = .ok (.invokevirtual 316, 3) := by decide +kernel
theorem dX6_move_70 : decode cX6_move 70 = .ok (.aload_n 0, 1) := by decide +kernel
theorem dX6_move_71 : decode cX6_move 71 = .ok (.iload_n 1, 1) := by decide +kernel
theorem dX6_move_72 : decode cX6_move 72 = .ok (.iload_n 2, 1) := by decide +kernel
theorem dX6_move_73 : decode cX6_move 73 = .ok (.iload_n 3, 1) := by decide +kernel
theorem dX6_move_74 : decode cX6_move 74 = .ok (.invokevirtual 139, 3) := by decide +kernel
theorem dX6_move_77 : decode cX6_move 77 = .ok (.iload 4, 2) := by decide +kernel
theorem dX6_move_79 : decode cX6_move 79 = .ok (.iload 5, 2) := by decide +kernel
theorem dX6_move_81 : decode cX6_move 81 = .ok (.if_icmp .gt 15, 3) := by decide +kernel
theorem dX6_move_84 : decode cX6_move 84 = .ok (.aload_n 0, 1) := by decide +kernel
theorem dX6_move_85 : decode cX6_move 85 = .ok (.iload 4, 2) := by decide +kernel
theorem dX6_move_87 : decode cX6_move 87 = .ok (.iload 5, 2) := by decide +kernel
theorem dX6_move_89 : decode cX6_move 89 = .ok (.iconst 0, 1) := by decide +kernel
theorem dX6_move_90 : decode cX6_move 90 = .ok (.invokevirtual 150, 3) := by decide +kernel
theorem dX6_move_93 : decode cX6_move 93 = .ok (.goto 4, 3) := by decide +kernel
theorem dX6_move_96 : decode cX6_move 96 = .ok (.iconst 0, 1) := by decide +kernel
theorem dX6_move_97 : decode cX6_move 97 = .ok (.istore 6, 2) := by decide +kernel
theorem dX6_move_99 : decode cX6_move 99 = .ok (.aload_n 0, 1) := by decide +kernel
theorem dX6_move_100 : decode cX6_move 100 = .ok (.getfield 7, 3) := by decide +kernel
theorem dX6_move_103 : decode cX6_move 103 = .ok (.sipush 389, 3) := by decide +kernel
theorem dX6_move_106 : decode cX6_move 106 = .ok (.iaload, 1) := by decide +kernel
theorem dX6_move_107 : decode cX6_move 107 = .ok (.iconst 1, 1) := by decide +kernel
theorem dX6_move_108 : decode cX6_move 108 = .ok (.isub, 1) := by decide +kernel
theorem dX6_move_109 : decode cX6_move 109 = .ok (.ireturn, 1) := by decide +kernel
theorem dX6_forcedByFill_0 : decode cX6_forcedByFill 0 = .ok (.aload_n 0, 1) := by decide +kernel
theorem dX6_forcedByFill_1 : decode cX6_forcedByFill 1 = .ok (.iload_n 1, 1) := by decide +kernel
theorem dX6_forcedByFill_2 : decode cX6_forcedByFill 2 = .ok (.iload_n 2, 1) := by decide +kernel
theorem dX6_forcedByFill_3 : decode cX6_forcedByFill 3 = .ok (.invokevirtual 251, 3) := by decide +kernel
theorem dX6_forcedByFill_6 : decode cX6_forcedByFill 6 = .ok (.ifCond .ne 17, 3) := by decide +kernel
theorem dX6_forcedByFill_9 : decode cX6_forcedByFill 9 = .ok (.aload_n 0, 1) := by decide +kernel
theorem dX6_forcedByFill_10 : decode cX6_forcedByFill 10 = .ok (.aload_n 0, 1) := by decide +kernel
theorem dX6_forcedByFill_11 : decode cX6_forcedByFill 11 = .ok (.iload_n 1, 1) := by decide +kernel
theorem dX6_forcedByFill_12 : decode cX6_forcedByFill 12 = .ok (.iload_n 2, 1) := by decide +kernel
theorem dX6_forcedByFill_13 : decode cX6_forcedByFill 13 = .ok (.invokevirtual 146, 3) := by decide +kernel
theorem dX6_forcedByFill_16 : decode cX6_forcedByFill 16 = .ok (.iconst 3, 1) := by decide +kernel
theorem dX6_forcedByFill_17 : decode cX6_forcedByFill 17 = .ok (.invokevirtual 40, 3) := by decide +kernel
theorem dX6_forcedByFill_20 : decode cX6_forcedByFill 20 = .ok (.ifCond .eq 5, 3) := by decide +kernel
theorem dX6_forcedByFill_23 : decode cX6_forcedByFill 23 = .ok (.iconst 0, 1) := by decide +kernel
theorem dX6_forcedByFill_24 : decode cX6_forcedByFill 24 = .ok (.ireturn, 1) := by decide +kernel
theorem dX6_forcedByFill_25 : decode cX6_forcedByFill 25 = .ok (.iconst 0, 1) := by decide +kernel
theorem dX6_forcedByFill_26 : decode cX6_forcedByFill 26 = .ok (.istore_n 3, 1) := by decide +kernel
theorem dX6_forcedByFill_27 : decode cX6_forcedByFill 27 = .ok (.iconst 0, 1) := by decide +kernel
theorem dX6_forcedByFill_28 : decode cX6_forcedByFill 28 = .ok (.istore 4, 2) := by decide +kernel
theorem dX6_forcedByFill_30 : decode cX6_forcedByFill 30 = .ok (.iload 4, 2) := by decide +kernel
theorem dX6_forcedByFill_32 : decode cX6_forcedByFill 32 = .ok (.aload_n 0, 1) := by decide +kernel
theorem dX6_forcedByFill_33 : decode cX6_forcedByFill 33 = .ok (.getfield 126, 3) := by decide +kernel
theorem dX6_forcedByFill_36 : decode cX6_forcedByFill 36 = .ok (.if_icmp .ge 48, 3) := by decide +kernel
theorem dX6_forcedByFill_39 : decode cX6_forcedByFill 39 = .ok (.iload_n 3, 1) := by decide +kernel
theorem dX6_forcedByFill_40 : decode cX6_forcedByFill 40 = .ok (.iload 4, 2) := by decide +kernel
theorem dX6_forcedByFill_42 : decode cX6_forcedByFill 42 = .ok (.iload_n 1, 1) := by decide +kernel
theorem dX6_forcedByFill_43 : decode cX6_forcedByFill 43 = .ok (.iload_n 2, 1) := by decide +kernel
theorem dX6_forcedByFill_44 : decode cX6_forcedByFill 44 = .ok (.invokestatic 98, 3) := by decide +kernel
theorem dX6_forcedByFill_47 : decode cX6_forcedByFill 47 = .ok (.ifCond .ne 25, 3) := by decide +kernel
theorem dX6_forcedByFill_50 : decode cX6_forcedByFill 50 = .ok (.aload_n 0, 1) := by decide +kernel
theorem dX6_forcedByFill_51 : decode cX6_forcedByFill 51 = .ok (.getfield 7, 3) := by decide +kernel
theorem dX6_forcedByFill_54 : decode cX6_forcedByFill 54 = .ok (.bipush 96, 2) := by decide +kernel
theorem dX6_forcedByFill_56 : decode cX6_forcedByFill 56 = .ok (.iload 4, 2) := by decide +kernel
theorem dX6_forcedByFill_58 : decode cX6_forcedByFill 58 = .ok (.iadd, 1) := by decide +kernel
theorem dX6_forcedByFill_59 : decode cX6_forcedByFill 59 = .ok (.iaload, 1) := by decide +kernel
theorem dX6_forcedByFill_60 : decode cX6_forcedByFill 60 = .ok (.iload_n 1, 1) := by decide +kernel
theorem dX6_forcedByFill_61 : decode cX6_forcedByFill 61 = .ok (.iload_n 2, 1) := by decide +kernel
theorem dX6_forcedByFill_62 : decode cX6_forcedByFill 62 = .ok (.invokestatic 98, 3) := by decide +kernel
theorem dX6_forcedByFill_65 : decode cX6_forcedByFill 65 = .ok (.ifCond .eq 7, 3) := by decide +kernel
theorem dX6_forcedByFill_68 : decode cX6_forcedByFill 68 = .ok (.iconst 1, 1) := by decide +kernel
theorem dX6_forcedByFill_69 : decode cX6_forcedByFill 69 = .ok (.goto 4, 3) := by decide +kernel
theorem dX6_forcedByFill_72 : decode cX6_forcedByFill 72 = .ok (.iconst 0, 1) := by decide +kernel
theorem dX6_forcedByFill_73 : decode cX6_forcedByFill 73 = .ok (.invokestatic 232, 3) := by decide +kernel
theorem dX6_forcedByFill_76 : decode cX6_forcedByFill 76 = .ok (.iadd, 1) := by decide +kernel
theorem dX6_forcedByFill_77 : decode cX6_forcedByFill 77 = .ok (.istore_n 3, 1) := by decide +kernel
theorem dX6_forcedByFill_78 : decode cX6_forcedByFill 78 = .ok (.iinc 4 1, 3) := by decide +kernel
theorem dX6_forcedByFill_81 : decode cX6_forcedByFill 81 = .ok (.goto (-51), 3) := by decide +kernel
theorem dX6_forcedByFill_84 : decode cX6_forcedByFill 84 = .ok (.iload_n 3, 1) := by decide +kernel
theorem dX6_forcedByFill_85 : decode cX6_forcedByFill 85 = .ok (.ireturn, 1) := by decide +kernel
theorem dX6_fill_0 : decode cX6_fill 0 = .ok (.aload_n 0, 1) := by decide +kernel
theorem dX6_fill_1 : decode cX6_fill 1 = .ok (.iload_n 1, 1) := by decide +kernel
theorem dX6_fill_2 : decode cX6_fill 2 = .ok (.iload_n 2, 1) := by decide +kernel
theorem dX6_fill_3 : decode cX6_fill 3 = .ok (.invokevirtual 251, 3) := by decide +kernel
theorem dX6_fill_6 : decode cX6_fill 6 = .ok (.ifCond .ne 36, 3) := by decide +kernel
theorem dX6_fill_9 : decode cX6_fill 9 = .ok (.aload_n 0, 1) := by decide +kernel
theorem dX6_fill_10 : decode cX6_fill 10 = .ok (.iload_n 3, 1) := by decide +kernel
theorem dX6_fill_11 : decode cX6_fill 11 = .ok (.iconst 0, 1) := by decide +kernel
theorem dX6_fill_12 : decode cX6_fill 12 = .ok (.sipush 255, 3) := by decide +kernel
theorem dX6_fill_15 : decode cX6_fill 15 = .ok (.invokestatic 98, 3) := by decide +kernel
theorem dX6_fill_18 : decode cX6_fill 18 = .ok (.ifCond .eq 12, 3) := by decide +kernel
theorem dX6_fill_21 : decode cX6_fill 21 = .ok (.aload_n 0, 1) := by decide +kernel
theorem dX6_fill_22 : decode cX6_fill 22 = .ok (.iload_n 1, 1) := by decide +kernel
theorem dX6_fill_23 : decode cX6_fill 23 = .ok (.iload_n 2, 1) := by decide +kernel
theorem dX6_fill_24 : decode cX6_fill 24 = .ok (.invokevirtual 146, 3) := by decide +kernel
theorem dX6_fill_27 : decode cX6_fill 27 = .ok (.ifCond .eq 7, 3) := by decide +kernel
theorem dX6_fill_30 : decode cX6_fill 30 = .ok (.iconst 1, 1) := by decide +kernel
theorem dX6_fill_31 : decode cX6_fill 31 = .ok (.goto 4, 3) := by decide +kernel
theorem dX6_fill_34 : decode cX6_fill 34 = .ok (.iconst 0, 1) := by decide +kernel
theorem dX6_fill_35 : decode cX6_fill 35 = .ok (.iconst 3, 1) := by decide +kernel
theorem dX6_fill_36 : decode cX6_fill 36 = .ok (.invokevirtual 40, 3) := by decide +kernel
theorem dX6_fill_39 : decode cX6_fill 39 = .ok (.ifCond .eq 5, 3) := by decide +kernel
theorem dX6_fill_42 : decode cX6_fill 42 = .ok (.iconst 0, 1) := by decide +kernel
theorem dX6_fill_43 : decode cX6_fill 43 = .ok (.ireturn, 1) := by decide +kernel
theorem dX6_fill_44 : decode cX6_fill 44 = .ok (.aload_n 0, 1) := by decide +kernel
theorem dX6_fill_45 : decode cX6_fill 45 = .ok (.invokevirtual 316, 3) := by decide +kernel
theorem dX6_fill_48 : decode cX6_fill 48 = .ok (.aload_n 0, 1) := by decide +kernel
theorem dX6_fill_49 : decode cX6_fill 49 = .ok (.iload_n 1, 1) := by decide +kernel
theorem dX6_fill_50 : decode cX6_fill 50 = .ok (.iload_n 2, 1) := by decide +kernel
theorem dX6_fill_51 : decode cX6_fill 51 = .ok (.iload_n 3, 1) := by decide +kernel
theorem dX6_fill_52 : decode cX6_fill 52 = .ok (.invokevirtual 150, 3) := by decide +kernel
theorem dX6_fill_55 : decode cX6_fill 55 = .ok (.ireturn, 1) := by decide +kernel
theorem dX6_fetch_0 : decode cX6_fetch 0 = .ok (.aload_n 0, 1) := by decide +kernel
theorem dX6_fetch_1 : decode cX6_fetch 1 = .ok (.iload_n 1, 1) := by decide +kernel
theorem dX6_fetch_2 : decode cX6_fetch 2 = .ok (.invokevirtual 223, 3) := by decide +kernel
theorem dX6_fetch_5 : decode cX6_fetch 5 = .ok (.ifCond .eq 5, 3) := by decide +kernel
theorem dX6_fetch_8 : decode cX6_fetch 8 = .ok (.iconst 0, 1) := by decide +kernel
theorem dX6_fetch_9 : decode cX6_fetch 9 = .ok (.ireturn, 1) := by decide +kernel
theorem dX6_fetch_10 : decode cX6_fetch 10 = .ok (.aload_n 0, 1) := by decide +kernel
theorem dX6_fetch_11 : decode cX6_fetch 11 = .ok (.invokevirtual 316, 3) := by decide +kernel
theorem dX6_fetch_14 : decode cX6_fetch 14 = .ok (.aload_n 0, 1) := by decide +kernel
theorem dX6_fetch_15 : decode cX6_fetch 15 = .ok (.iload_n 1, 1) := by decide +kernel
theorem dX6_fetch_16 : decode cX6_fetch 16 = .ok (.invokevirtual 226, 3) := by decide +kernel
theorem dX6_fetch_19 : decode cX6_fetch 19 = .ok (.istore_n 2, 1) := by decide +kernel
theorem dX6_fetch_20 : decode cX6_fetch 20 = .ok (.aload_n 0, 1) := by decide +kernel
theorem dX6_fetch_21 : decode cX6_fetch 21 = .ok (.getfield 7, 3) := by decide +kernel
theorem dX6_fetch_24 : decode cX6_fetch 24 = .ok (.sipush 396, 3) := by decide +kernel
theorem dX6_fetch_27 : decode cX6_fetch 27 = .ok (.dup2, 1) := by decide +kernel
theorem dX6_fetch_28 : decode cX6_fetch 28 = .ok (.iaload, 1) := by decide +kernel
theorem dX6_fetch_29 : decode cX6_fetch 29 = .ok (.aload_n 0, 1) := by decide +kernel
theorem dX6_fetch_30 : decode cX6_fetch 30 = .ok (.iload_n 1, 1) := by decide +kernel
theorem dX6_fetch_31 : decode cX6_fetch 31 = .ok (.invokevirtual 229, 3) := by decide +kernel
theorem dX6_fetch_34 : decode cX6_fetch 34 = .ok (.iadd, 1) := by decide +kernel
theorem dX6_fetch_35 : decode cX6_fetch 35 = .ok (.iastore, 1) := by decide +kernel
theorem dX6_fetch_36 : decode cX6_fetch 36 = .ok (.aload_n 0, 1) := by decide +kernel
theorem dX6_fetch_37 : decode cX6_fetch 37 = .ok (.getfield 7, 3) := by decide +kernel
theorem dX6_fetch_40 : decode cX6_fetch 40 = .ok (.sipush 398, 3) := by decide +kernel
theorem dX6_fetch_43 : decode cX6_fetch 43 = .ok (.dup2, 1) := by decide +kernel
theorem dX6_fetch_44 : decode cX6_fetch 44 = .ok (.iaload, 1) := by decide +kernel
theorem dX6_fetch_45 : decode cX6_fetch 45 = .ok (.iconst 1, 1) := by decide +kernel
theorem dX6_fetch_46 : decode cX6_fetch 46 = .ok (.iadd, 1) := by decide +kernel
theorem dX6_fetch_47 : decode cX6_fetch 47 = .ok (.iastore, 1) := by decide +kernel
theorem dX6_fetch_48 : decode cX6_fetch 48 = .ok (.aload_n 0, 1) := by decide +kernel
theorem dX6_fetch_49 : decode cX6_fetch 49 = .ok (.getfield 7, 3) := by decide +kernel
theorem dX6_fetch_52 : decode cX6_fetch 52 = .ok (.sipush 388, 3) := by decide +kernel
theorem dX6_fetch_55 : decode cX6_fetch 55 = .ok (.iaload, 1) := by decide +kernel
theorem dX6_fetch_56 : decode cX6_fetch 56 = .ok (.iconst 1, 1) := by decide +kernel
theorem dX6_fetch_57 : decode cX6_fetch 57 = .ok (.if_icmp .ne 17, 3) := by decide +kernel
theorem dX6_fetch_60 : decode cX6_fetch 60 = .ok (.aload_n 0, 1) := by decide +kernel
theorem dX6_fetch_61 : decode cX6_fetch 61 = .ok (.iload_n 1, 1) := by decide +kernel
theorem dX6_fetch_62 : decode cX6_fetch 62 = .ok (.invokevirtual 217, 3) := by decide +kernel
theorem dX6_fetch_65 : decode cX6_fetch 65 = .ok (.ifCond .eq 9, 3) := by decide +kernel
theorem dX6_fetch_68 : decode cX6_fetch 68 = .ok (.aload_n 0, 1) := by decide +kernel
theorem dX6_fetch_69 : decode cX6_fetch 69 = .ok (.iload_n 1, 1) := by decide +kernel
theorem dX6_fetch_70 : decode cX6_fetch 70 = .ok (.iconst 2, 1) := by decide +kernel
theorem dX6_fetch_71 : decode cX6_fetch 71 = .ok (.invokevirtual 282, 3) := by decide +kernel
theorem dX6_fetch_74 : decode cX6_fetch 74 = .ok (.iload_n 2, 1) := by decide +kernel
theorem dX6_fetch_75 : decode cX6_fetch 75 = .ok (.ireturn, 1) := by decide +kernel
theorem dX6_tick_0 : decode cX6_tick 0 = .ok (.aload_n 0, 1) := by decide +kernel
theorem dX6_tick_1 : decode cX6_tick 1 = .ok (.invokevirtual 207, 3) := by decide +kernel
theorem dX6_tick_4 : decode cX6_tick 4 = .ok (.ifCond .ne 26, 3) := by decide +kernel
theorem dX6_tick_7 : decode cX6_tick 7 = .ok (.aload_n 0, 1) := by decide +kernel
theorem dX6_tick_8 : decode cX6_tick 8 = .ok (.iload_n 1, 1) := by decide +kernel
theorem dX6_tick_9 : decode cX6_tick 9 = .ok (.iconst 1, 1) := by decide +kernel
theorem dX6_tick_10 : decode cX6_tick 10 = .ok (.bipush 100, 2) := by decide +kernel
theorem dX6_tick_12 : decode cX6_tick 12 = .ok (.invokestatic 98, 3) := by decide +kernel
theorem dX6_tick_15 : decode cX6_tick 15 = .ok (.ifCond .ne 7, 3) := by decide +kernel
theorem dX6_tick_18 : decode cX6_tick 18 = .ok (.iconst 1, 1) := by decide +kernel
theorem dX6_tick_19 : decode cX6_tick 19 = .ok (.goto 4, 3) := by decide +kernel
theorem dX6_tick_22 : decode cX6_tick 22 = .ok (.iconst 0, 1) := by decide +kernel
theorem dX6_tick_23 : decode cX6_tick 23 = .ok (.iconst 2, 1) := by decide +kernel
theorem dX6_tick_24 : decode cX6_tick 24 = .ok (.invokevirtual 40, 3) := by decide +kernel
theorem dX6_tick_27 : decode cX6_tick 27 = .ok (.ifCond .eq 5, 3) := by decide +kernel
theorem dX6_tick_30 : decode cX6_tick 30 = .ok (.iconst 0, 1) := by decide +kernel
theorem dX6_tick_31 : decode cX6_tick 31 = .ok (.ireturn, 1) := by decide +kernel
theorem dX6_tick_32 : decode cX6_tick 32 = .ok (.aload_n 0, 1) := by decide +kernel
theorem dX6_tick_33 : decode cX6_tick 33 = .ok (.invokevirtual 316, 3) := by decide +kernel
theorem dX6_tick_36 : decode cX6_tick 36 = .ok (.aload_n 0, 1) := by decide +kernel
theorem dX6_tick_37 : decode cX6_tick 37 = .ok (.iload_n 1, 1) := by decide +kernel
theorem dX6_tick_38 : decode cX6_tick 38 = .ok (.invokevirtual 301, 3) := by decide +kernel
theorem dX6_tick_41 : decode cX6_tick 41 = .ok (.ireturn, 1) := by decide +kernel
theorem dX6_payRange_0 : decode cX6_payRange 0 = .ok (.aload_n 0, 1) := by decide +kernel
theorem dX6_payRange_1 : decode cX6_payRange 1 = .ok (.iload_n 1, 1) := by decide +kernel
theorem dX6_payRange_2 : decode cX6_payRange 2 = .ok (.iload_n 2, 1) := by decide +kernel
theorem dX6_payRange_3 : decode cX6_payRange 3 = .ok (.invokevirtual 251, 3) := by decide +kernel
theorem dX6_payRange_6 : decode cX6_payRange 6 = .ok (.ifCond .eq 5, 3) := by decide +kernel
theorem dX6_payRange_9 : decode cX6_payRange 9 = .ok (.iconst 0, 1) := by decide +kernel
theorem dX6_payRange_10 : decode cX6_payRange 10 = .ok (.ireturn, 1) := by decide +kernel
theorem dX6_payRange_11 : decode cX6_payRange 11 = .ok (.aload_n 0, 1) := by decide +kernel
theorem dX6_payRange_12 : decode cX6_payRange 12 = .ok (.invokevirtual 316, 3) := by decide +kernel
theorem dX6_payRange_15 : decode cX6_payRange 15 = .ok (.iconst 0, 1) := by decide +kernel
theorem dX6_payRange_16 : decode cX6_payRange 16 = .ok (.istore_n 3, 1) := by decide +kernel
theorem dX6_payRange_17 : decode cX6_payRange 17 = .ok (.iload_n 1, 1) := by decide +kernel
theorem dX6_payRange_18 : decode cX6_payRange 18 = .ok (.istore 4, 2) := by decide +kernel
theorem dX6_payRange_20 : decode cX6_payRange 20 = .ok (.iload 4, 2) := by decide +kernel
theorem dX6_payRange_22 : decode cX6_payRange 22 = .ok (.iload_n 2, 1) := by decide +kernel
theorem dX6_payRange_23 : decode cX6_payRange 23 = .ok (.if_icmp .gt 28, 3) := by decide +kernel
theorem dX6_payRange_26 : decode cX6_payRange 26 = .ok (.aload_n 0, 1) := by decide +kernel
theorem dX6_payRange_27 : decode cX6_payRange 27 = .ok (.iload 4, 2) := by decide +kernel
theorem dX6_payRange_29 : decode cX6_payRange 29 = .ok (.invokevirtual 217, 3) := by decide +kernel
theorem dX6_payRange_32 : decode cX6_payRange 32 = .ok (.ifCond .eq 13, 3) := by decide +kernel
theorem dX6_payRange_35 : decode cX6_payRange 35 = .ok (.aload_n 0, 1) := by decide +kernel
theorem dX6_payRange_36 : decode cX6_payRange 36 = .ok (.iload 4, 2) := by decide +kernel
theorem dX6_payRange_38 : decode cX6_payRange 38 = .ok (.iconst 2, 1) := by decide +kernel
theorem dX6_payRange_39 : decode cX6_payRange 39 = .ok (.invokevirtual 282, 3) := by decide +kernel
theorem dX6_payRange_42 : decode cX6_payRange 42 = .ok (.iinc 3 1, 3) := by decide +kernel
theorem dX6_payRange_45 : decode cX6_payRange 45 = .ok (.iinc 4 1, 3) := by decide +kernel
theorem dX6_payRange_48 : decode cX6_payRange 48 = .ok (.goto (-28), 3) := by decide +kernel
theorem dX6_payRange_51 : decode cX6_payRange 51 = .ok (.iload_n 3, 1) := by decide +kernel
theorem dX6_payRange_52 : decode cX6_payRange 52 = .ok (.ireturn, 1) := by decide +kernel
theorem dX6_shorten_0 : decode cX6_shorten 0 = .ok (.aload_n 0, 1) := by decide +kernel
theorem dX6_shorten_1 : decode cX6_shorten 1 = .ok (.iload_n 1, 1) := by decide +kernel
theorem dX6_shorten_2 : decode cX6_shorten 2 = .ok (.invokevirtual 223, 3) := by decide +kernel
theorem dX6_shorten_5 : decode cX6_shorten 5 = .ok (.ifCond .ne 24, 3) := by decide +kernel
theorem dX6_shorten_8 : decode cX6_shorten 8 = .ok (.aload_n 0, 1) := by decide +kernel
theorem dX6_shorten_9 : decode cX6_shorten 9 = .ok (.aload_n 0, 1) := by decide +kernel
theorem dX6_shorten_10 : decode cX6_shorten 10 = .ok (.iload_n 1, 1) := by decide +kernel
theorem dX6_shorten_11 : decode cX6_shorten 11 = .ok (.invokevirtual 217, 3) := by decide +kernel
theorem dX6_shorten_14 : decode cX6_shorten 14 = .ok (.ifCond .ne 7, 3) := by decide +kernel
theorem dX6_shorten_17 : decode cX6_shorten 17 = .ok (.iconst 1, 1) := by decide +kernel
theorem dX6_shorten_18 : decode cX6_shorten 18 = .ok (.goto 4, 3) := by decide +kernel
theorem dX6_shorten_21 : decode cX6_shorten 21 = .ok (.iconst 0, 1) := by decide +kernel
theorem dX6_shorten_22 : decode cX6_shorten 22 = .ok (.iconst 3, 1) := by decide +kernel
theorem dX6_shorten_23 : decode cX6_shorten 23 = .ok (.invokevirtual 40, 3) := by decide +kernel
theorem dX6_shorten_26 : decode cX6_shorten 26 = .ok (.ifCond .eq 5, 3) := by decide +kernel
theorem dX6_shorten_29 : decode cX6_shorten 29 = .ok (.iconst 0, 1) := by decide +kernel
theorem dX6_shorten_30 : decode cX6_shorten 30 = .ok (.ireturn, 1) := by decide +kernel
theorem dX6_shorten_31 : decode cX6_shorten 31 = .ok (.aload_n 0, 1) := by decide +kernel
theorem dX6_shorten_32 : decode cX6_shorten 32 = .ok (.invokevirtual 316, 3) := by decide +kernel
theorem dX6_shorten_35 : decode cX6_shorten 35 = .ok (.aload_n 0, 1) := by decide +kernel
theorem dX6_shorten_36 : decode cX6_shorten 36 = .ok (.iload_n 1, 1) := by decide +kernel
theorem dX6_shorten_37 : decode cX6_shorten 37 = .ok (.invokevirtual 229, 3) := by decide +kernel
theorem dX6_shorten_40 : decode cX6_shorten 40 = .ok (.istore_n 2, 1) := by decide +kernel
theorem dX6_shorten_41 : decode cX6_shorten 41 = .ok (.aload_n 0, 1) := by decide +kernel
theorem dX6_shorten_42 : decode cX6_shorten 42 = .ok (.getfield 7, 3) := by decide +kernel
theorem dX6_shorten_45 : decode cX6_shorten 45 = .ok (.bipush 96, 2) := by decide +kernel
theorem dX6_shorten_47 : decode cX6_shorten 47 = .ok (.iload_n 1, 1) := by decide +kernel
theorem dX6_shorten_48 : decode cX6_shorten 48 = .ok (.iadd, 1) := by decide +kernel
theorem dX6_shorten_49 : decode cX6_shorten 49 = .ok (.aload_n 0, 1) := by decide +kernel
theorem dX6_shorten_50 : decode cX6_shorten 50 = .ok (.iload_n 1, 1) := by decide +kernel
theorem dX6_shorten_51 : decode cX6_shorten 51 = .ok (.invokevirtual 220, 3) := by decide +kernel
theorem dX6_shorten_54 : decode cX6_shorten 54 = .ok (.iastore, 1) := by decide +kernel
theorem dX6_shorten_55 : decode cX6_shorten 55 = .ok (.iload_n 2, 1) := by decide +kernel
theorem dX6_shorten_56 : decode cX6_shorten 56 = .ok (.iconst 1, 1) := by decide +kernel
theorem dX6_shorten_57 : decode cX6_shorten 57 = .ok (.isub, 1) := by decide +kernel
theorem dX6_shorten_58 : decode cX6_shorten 58 = .ok (.ireturn, 1) := by decide +kernel
theorem dX6_setLock_0 : decode cX6_setLock 0 = .ok (.aload_n 0, 1) := by decide +kernel
theorem dX6_setLock_1 : decode cX6_setLock 1 = .ok (.iload_n 1, 1) := by decide +kernel
theorem dX6_setLock_2 : decode cX6_setLock 2 = .ok (.invokevirtual 223, 3) := by decide +kernel
theorem dX6_setLock_5 : decode cX6_setLock 5 = .ok (.ifCond .eq 5, 3) := by decide +kernel
theorem dX6_setLock_8 : decode cX6_setLock 8 = .ok (.iconst 0, 1) := by decide +kernel
theorem dX6_setLock_9 : decode cX6_setLock 9 = .ok (.ireturn, 1) := by decide +kernel
theorem dX6_setLock_10 : decode cX6_setLock 10 = .ok (.aload_n 0, 1) := by decide +kernel
theorem dX6_setLock_11 : decode cX6_setLock 11 = .ok (.invokevirtual 316, 3) := by decide +kernel
theorem dX6_setLock_14 : decode cX6_setLock 14 = .ok (.iload_n 2, 1) := by decide +kernel
theorem dX6_setLock_15 : decode cX6_setLock 15 = .ok (.ifCond .eq 9, 3) := by decide +kernel
theorem dX6_setLock_18 : decode cX6_setLock 18 = .ok (.aload_n 0, 1) := by decide +kernel
theorem dX6_setLock_19 : decode cX6_setLock 19 = .ok (.iload_n 1, 1) := by decide +kernel
theorem dX6_setLock_20 : decode cX6_setLock 20 = .ok (.invokevirtual 132, 3) := by decide +kernel
theorem dX6_setLock_23 : decode cX6_setLock 23 = .ok (.ireturn, 1) := by decide +kernel
theorem dX6_setLock_24 : decode cX6_setLock 24 = .ok (.aload_n 0, 1) := by decide +kernel
theorem dX6_setLock_25 : decode cX6_setLock 25 = .ok (.getfield 7, 3) := by decide +kernel
theorem dX6_setLock_28 : decode cX6_setLock 28 = .ok (.sipush 288, 3) := by decide +kernel
theorem dX6_setLock_31 : decode cX6_setLock 31 = .ok (.iload_n 1, 1) := by decide +kernel
theorem dX6_setLock_32 : decode cX6_setLock 32 = .ok (.iadd, 1) := by decide +kernel
theorem dX6_setLock_33 : decode cX6_setLock 33 = .ok (.iconst 0, 1) := by decide +kernel
theorem dX6_setLock_34 : decode cX6_setLock 34 = .ok (.iastore, 1) := by decide +kernel
theorem dX6_setLock_35 : decode cX6_setLock 35 = .ok (.iconst 0, 1) := by decide +kernel
theorem dX6_setLock_36 : decode cX6_setLock 36 = .ok (.ireturn, 1) := by decide +kernel
theorem dX6_isValue_0 : decode cX6_isValue 0 = .ok (.iload_n 0, 1) := by decide +kernel
theorem dX6_isValue_1 : decode cX6_isValue 1 = .ok (.ifCond .ne 13, 3) := by decide +kernel
theorem dX6_isValue_4 : decode cX6_isValue 4 = .ok (.iload_n 1, 1) := by decide +kernel
theorem dX6_isValue_5 : decode cX6_isValue 5 = .ok (.iconst 1, 1) := by decide +kernel
theorem dX6_isValue_6 : decode cX6_isValue 6 = .ok (.bipush 20, 2) := by decide +kernel
theorem dX6_isValue_8 : decode cX6_isValue 8 = .ok (.invokestatic 98, 3) := by decide +kernel
theorem dX6_isValue_11 : decode cX6_isValue 11 = .ok (.goto 38, 3) := by decide +kernel
theorem dX6_isValue_14 : decode cX6_isValue 14 = .ok (.iload_n 0, 1) := by decide +kernel
theorem dX6_isValue_15 : decode cX6_isValue 15 = .ok (.iconst 1, 1) := by decide +kernel
theorem dX6_isValue_16 : decode cX6_isValue 16 = .ok (.if_icmp .ne 13, 3) := by decide +kernel
theorem dX6_isValue_19 : decode cX6_isValue 19 = .ok (.iload_n 1, 1) := by decide +kernel
theorem dX6_isValue_20 : decode cX6_isValue 20 = .ok (.iconst 0, 1) := by decide +kernel
theorem dX6_isValue_21 : decode cX6_isValue 21 = .ok (.bipush 96, 2) := by decide +kernel
theorem dX6_isValue_23 : decode cX6_isValue 23 = .ok (.invokestatic 98, 3) := by decide +kernel
theorem dX6_isValue_26 : decode cX6_isValue 26 = .ok (.goto 23, 3) := by decide +kernel
theorem dX6_isValue_29 : decode cX6_isValue 29 = .ok (.iload_n 0, 1) := by decide +kernel
theorem dX6_isValue_30 : decode cX6_isValue 30 = .ok (.iconst 2, 1) := by decide +kernel
theorem dX6_isValue_31 : decode cX6_isValue 31 = .ok (.if_icmp .ne 12, 3) := by decide +kernel
theorem dX6_isValue_34 : decode cX6_isValue 34 = .ok (.iload_n 1, 1) := by decide +kernel
theorem dX6_isValue_35 : decode cX6_isValue 35 = .ok (.iconst 0, 1) := by decide +kernel
theorem dX6_isValue_36 : decode cX6_isValue 36 = .ok (.iconst 3, 1) := by decide +kernel
theorem dX6_isValue_37 : decode cX6_isValue 37 = .ok (.invokestatic 98, 3) := by decide +kernel
theorem dX6_isValue_40 : decode cX6_isValue 40 = .ok (.goto 9, 3) := by decide +kernel
theorem dX6_isValue_43 : decode cX6_isValue 43 = .ok (.iload_n 1, 1) := by decide +kernel
theorem dX6_isValue_44 : decode cX6_isValue 44 = .ok (.iconst 0, 1) := by decide +kernel
theorem dX6_isValue_45 : decode cX6_isValue 45 = .ok (.iconst 1, 1) := by decide +kernel
theorem dX6_isValue_46 : decode cX6_isValue 46 = .ok (.invokestatic 98, 3) := by decide +kernel
theorem dX6_isValue_49 : decode cX6_isValue 49 = .ok (.ireturn, 1) := by decide +kernel
theorem dX6_setSetting_0 : decode cX6_setSetting 0 = .ok (.aload_n 0, 1) := by decide +kernel
theorem dX6_setSetting_1 : decode cX6_setSetting 1 = .ok (.invokevirtual 207, 3) := by decide +kernel
theorem dX6_setSetting_4 : decode cX6_setSetting 4 = .ok (.ifCond .ne 33, 3) := by decide +kernel
theorem dX6_setSetting_7 : decode cX6_setSetting 7 = .ok (.aload_n 0, 1) := by decide +kernel
theorem dX6_setSetting_8 : decode cX6_setSetting 8 = .ok (.iload_n 1, 1) := by decide +kernel
theorem dX6_setSetting_9 : decode cX6_setSetting 9 = .ok (.iconst 0, 1) := by decide +kernel
theorem dX6_setSetting_10 : decode cX6_setSetting 10 = .ok (.iconst 4, 1) := by decide +kernel
theorem dX6_setSetting_11 : decode cX6_setSetting 11 = .ok (.invokestatic 98, 3) := by decide +kernel
theorem dX6_setSetting_14 : decode cX6_setSetting 14 = .ok (.ifCond .eq 11, 3) := by decide +kernel
theorem dX6_setSetting_17 : decode cX6_setSetting 17 = .ok (.iload_n 1, 1) := by decide +kernel
theorem dX6_setSetting_18 : decode cX6_setSetting 18 = .ok (.iload_n 2, 1) := by decide +kernel
theorem dX6_setSetting_19 : decode cX6_setSetting 19 = .ok (.invokestatic 328, 3) := by decide +kernel
theorem dX6_setSetting_22 : decode cX6_setSetting 22 = .ok (.ifCond .ne 7, 3) := by decide +kernel
theorem dX6_setSetting_25 : decode cX6_setSetting 25 = .ok (.iconst 1, 1) := by decide +kernel
theorem dX6_setSetting_26 : decode cX6_setSetting 26 = .ok (.goto 4, 3) := by decide +kernel
theorem dX6_setSetting_29 : decode cX6_setSetting 29 = .ok (.iconst 0, 1) := by decide +kernel
theorem dX6_setSetting_30 : decode cX6_setSetting 30 = .ok (.iconst 2, 1) := by decide +kernel
theorem dX6_setSetting_31 : decode cX6_setSetting 31 = .ok (.invokevirtual 40, 3) := by decide +kernel
theorem dX6_setSetting_34 : decode cX6_setSetting 34 = .ok (.ifCond .eq 5, 3) := by decide +kernel
theorem dX6_setSetting_37 : decode cX6_setSetting 37 = .ok (.iconst 0, 1) := by decide +kernel
theorem dX6_setSetting_38 : decode cX6_setSetting 38 = .ok (.ireturn, 1) := by decide +kernel
theorem dX6_setSetting_39 : decode cX6_setSetting 39 = .ok (.aload_n 0, 1) := by decide +kernel
theorem dX6_setSetting_40 : decode cX6_setSetting 40 = .ok (.invokevirtual 316, 3) := by decide +kernel
theorem dX6_setSetting_43 : decode cX6_setSetting 43 = .ok (.aload_n 0, 1) := by decide +kernel
theorem dX6_setSetting_44 : decode cX6_setSetting 44 = .ok (.getfield 7, 3) := by decide +kernel
theorem dX6_setSetting_47 : decode cX6_setSetting 47 = .ok (.sipush 384, 3) := by decide +kernel
theorem dX6_setSetting_50 : decode cX6_setSetting 50 = .ok (.iload_n 1, 1) := by decide +kernel
theorem dX6_setSetting_51 : decode cX6_setSetting 51 = .ok (.iadd, 1) := by decide +kernel
theorem dX6_setSetting_52 : decode cX6_setSetting 52 = .ok (.iaload, 1) := by decide +kernel
theorem dX6_setSetting_53 : decode cX6_setSetting 53 = .ok (.istore_n 3, 1) := by decide +kernel
theorem dX6_setSetting_54 : decode cX6_setSetting 54 = .ok (.aload_n 0, 1) := by decide +kernel
theorem dX6_setSetting_55 : decode cX6_setSetting 55 = .ok (.getfield 7, 3) := by decide +kernel
theorem dX6_setSetting_58 : decode cX6_setSetting 58 = .ok (.sipush 384, 3) := by decide +kernel
theorem dX6_setSetting_61 : decode cX6_setSetting 61 = .ok (.iload_n 1, 1) := by decide +kernel
theorem dX6_setSetting_62 : decode cX6_setSetting 62 = .ok (.iadd, 1) := by decide +kernel
theorem dX6_setSetting_63 : decode cX6_setSetting 63 = .ok (.iload_n 2, 1) := by decide +kernel
theorem dX6_setSetting_64 : decode cX6_setSetting 64 = .ok (.iastore, 1) := by decide +kernel
theorem dX6_setSetting_65 : decode cX6_setSetting 65 = .ok (.aload_n 0, 1) := by decide +kernel
theorem dX6_setSetting_66 : decode cX6_setSetting 66 = .ok (.invokevirtual 291, 3) := by decide +kernel
theorem dX6_setSetting_69 : decode cX6_setSetting 69 = .ok (.iload_n 3, 1) := by decide +kernel
theorem dX6_setSetting_70 : decode cX6_setSetting 70 = .ok (.ireturn, 1) := by decide +kernel
theorem dX6_undo_0 : decode cX6_undo 0 = .ok (.aload_n 0, 1) := by decide +kernel
theorem dX6_undo_1 : decode cX6_undo 1 = .ok (.iconst 0, 1) := by decide +kernel
theorem dX6_undo_2 : decode cX6_undo 2 = .ok (.putfield 33, 3) := by decide +kernel
theorem dX6_undo_5 : decode cX6_undo 5 = .ok (.aload_n 0, 1) := by decide +kernel
theorem dX6_undo_6 : decode cX6_undo 6 = .ok (.aload_n 0, 1) := by decide +kernel
theorem dX6_undo_7 : decode cX6_undo 7 = .ok (.getfield 204, 3) := by decide +kernel
theorem dX6_undo_10 : decode cX6_undo 10 = .ok (.ifCond .ne 7, 3) := by decide +kernel
theorem dX6_undo_13 : decode cX6_undo 13 = .ok (.iconst 1, 1) := by decide +kernel
theorem dX6_undo_14 : decode cX6_undo 14 = .ok (.goto 4, 3) := by decide +kernel
theorem dX6_undo_17 : decode cX6_undo 17 = .ok (.iconst 0, 1) := by decide +kernel
theorem dX6_undo_18 : decode cX6_undo 18 = .ok (.iconst 1, 1) := by decide +kernel
theorem dX6_undo_19 : decode cX6_undo 19 = .ok (.invokevirtual 40, 3) := by decide +kernel
theorem dX6_undo_22 : decode cX6_undo 22 = .ok (.ifCond .eq 5, 3) := by decide +kernel
theorem dX6_undo_25 : decode cX6_undo 25 = .ok (.iconst 0, 1) := by decide +kernel
theorem dX6_undo_26 : decode cX6_undo 26 = .ok (.ireturn, 1) := by decide +kernel
theorem dX6_undo_27 : decode cX6_undo 27 = .ok (.aload_n 0, 1) := by decide +kernel
theorem dX6_undo_28 : decode cX6_undo 28 = .ok (.dup, 1) := by decide +kernel
theorem dX6_undo_29 : decode cX6_undo 29 = .ok (.getfield 204, 3) := by decide +kernel
theorem dX6_undo_32 : decode cX6_undo 32 = .ok (.iconst 1, 1) := by decide +kernel
theorem dX6_undo_33 : decode cX6_undo 33 = .ok (.isub, 1) := by decide +kernel
theorem dX6_undo_34 : decode cX6_undo 34 = .ok (.putfield 204, 3) := by decide +kernel
theorem dX6_undo_37 : decode cX6_undo 37 = .ok (.aload_n 0, 1) := by decide +kernel
theorem dX6_undo_38 : decode cX6_undo 38 = .ok (.iconst 1, 1) := by decide +kernel
theorem dX6_undo_39 : decode cX6_undo 39 = .ok (.aload_n 0, 1) := by decide +kernel
theorem dX6_undo_40 : decode cX6_undo 40 = .ok (.getfield 204, 3) := by decide +kernel
theorem dX6_undo_43 : decode cX6_undo 43 = .ok (.iadd, 1) := by decide +kernel
theorem dX6_undo_44 : decode cX6_undo 44 = .ok (.invokevirtual 201, 3) := by decide +kernel
theorem dX6_undo_47 : decode cX6_undo 47 = .ok (.aload_n 0, 1) := by decide +kernel
theorem dX6_undo_48 : decode cX6_undo 48 = .ok (.getfield 204, 3) := by decide +kernel
theorem dX6_undo_51 : decode cX6_undo 51 = .ok (.ireturn, 1) := by decide +kernel
theorem dX6_save_0 : decode cX6_save 0 = .ok (.aload_n 0, 1) := by decide +kernel
theorem dX6_save_1 : decode cX6_save 1 = .ok (.invokevirtual 207, 3) := by decide +kernel
theorem dX6_save_4 : decode cX6_save 4 = .ok (.ifCond .ne 25, 3) := by decide +kernel
theorem dX6_save_7 : decode cX6_save 7 = .ok (.aload_n 0, 1) := by decide +kernel
theorem dX6_save_8 : decode cX6_save 8 = .ok (.iload_n 1, 1) := by decide +kernel
theorem dX6_save_9 : decode cX6_save 9 = .ok (.iconst 0, 1) := by decide +kernel
theorem dX6_save_10 : decode cX6_save 10 = .ok (.iconst 1, 1) := by decide +kernel
theorem dX6_save_11 : decode cX6_save 11 = .ok (.invokestatic 98, 3) := by decide +kernel
theorem dX6_save_14 : decode cX6_save 14 = .ok (.ifCond .ne 7, 3) := by decide +kernel
theorem dX6_save_17 : decode cX6_save 17 = .ok (.iconst 1, 1) := by decide +kernel
theorem dX6_save_18 : decode cX6_save 18 = .ok (.goto 4, 3) := by decide +kernel
theorem dX6_save_21 : decode cX6_save 21 = .ok (.iconst 0, 1) := by decide +kernel
theorem dX6_save_22 : decode cX6_save 22 = .ok (.iconst 2, 1) := by decide +kernel
theorem dX6_save_23 : decode cX6_save 23 = .ok (.invokevirtual 40, 3) := by decide +kernel
theorem dX6_save_26 : decode cX6_save 26 = .ok (.ifCond .eq 5, 3) := by decide +kernel
theorem dX6_save_29 : decode cX6_save 29 = .ok (.iconst 0, 1) := by decide +kernel
theorem dX6_save_30 : decode cX6_save 30 = .ok (.ireturn, 1) := by decide +kernel
theorem dX6_save_31 : decode cX6_save 31 = .ok (.aload_n 0, 1) := by decide +kernel
theorem dX6_save_32 : decode cX6_save 32 = .ok (.bipush 9, 2) := by decide +kernel
theorem dX6_save_34 : decode cX6_save 34 = .ok (.iload_n 1, 1) := by decide +kernel
theorem dX6_save_35 : decode cX6_save 35 = .ok (.iadd, 1) := by decide +kernel
theorem dX6_save_36 : decode cX6_save 36 = .ok (.invokevirtual 195, 3) := by decide +kernel
theorem dX6_save_39 : decode cX6_save 39 = .ok (.aload_n 0, 1) := by decide +kernel
theorem dX6_save_40 : decode cX6_save 40 = .ok (.getfield 16, 3) := by decide +kernel
theorem dX6_save_43 : decode cX6_save 43 = .ok (.iload_n 1, 1) := by decide +kernel
theorem dX6_save_44 : decode cX6_save 44 = .ok (.iconst 1, 1) := by decide +kernel
theorem dX6_save_45 : decode cX6_save 45 = .ok (.bastore, 1) := by decide +kernel
theorem dX6_save_46 : decode cX6_save 46 = .ok (.aload_n 0, 1) := by decide +kernel
theorem dX6_save_47 : decode cX6_save 47 = .ok (.invokevirtual 236, 3) := by decide +kernel
theorem dX6_save_50 : decode cX6_save 50 = .ok (.ireturn, 1) := by decide +kernel
theorem dX6_restore_0 : decode cX6_restore 0 = .ok (.aload_n 0, 1) := by decide +kernel
theorem dX6_restore_1 : decode cX6_restore 1 = .ok (.iconst 0, 1) := by decide +kernel
theorem dX6_restore_2 : decode cX6_restore 2 = .ok (.putfield 33, 3) := by decide +kernel
theorem dX6_restore_5 : decode cX6_restore 5 = .ok (.aload_n 0, 1) := by decide +kernel
theorem dX6_restore_6 : decode cX6_restore 6 = .ok (.iload_n 1, 1) := by decide +kernel
theorem dX6_restore_7 : decode cX6_restore 7 = .ok (.iconst 0, 1) := by decide +kernel
theorem dX6_restore_8 : decode cX6_restore 8 = .ok (.iconst 1, 1) := by decide +kernel
theorem dX6_restore_9 : decode cX6_restore 9 = .ok (.invokestatic 98, 3) := by decide +kernel
theorem dX6_restore_12 : decode cX6_restore 12 = .ok (.ifCond .ne 7, 3) := by decide +kernel
theorem dX6_restore_15 : decode cX6_restore 15 = .ok (.iconst 1, 1) := by decide +kernel
theorem dX6_restore_16 : decode cX6_restore 16 = .ok (.goto 4, 3) := by decide +kernel
theorem dX6_restore_19 : decode cX6_restore 19 = .ok (.iconst 0, 1) := by decide +kernel
theorem dX6_restore_20 : decode cX6_restore 20 = .ok (.iconst 1, 1) := by decide +kernel
theorem dX6_restore_21 : decode cX6_restore 21 = .ok (.invokevirtual 40, 3) := by decide +kernel
theorem dX6_restore_24 : decode cX6_restore 24 = .ok (.ifCond .ne 25, 3) := by decide +kernel
theorem dX6_restore_27 : decode cX6_restore 27 = .ok (.aload_n 0, 1) := by decide +kernel
theorem dX6_restore_28 : decode cX6_restore 28 = .ok (.aload_n 0, 1) := by decide +kernel
theorem dX6_restore_29 : decode cX6_restore 29 = .ok (.getfield 16, 3) := by decide +kernel
theorem dX6_restore_32 : decode cX6_restore 32 = .ok (.iload_n 1, 1) := by decide +kernel
theorem dX6_restore_33 : decode cX6_restore 33 = .ok (.baload, 1) := by decide +kernel
theorem dX6_restore_34 : decode cX6_restore 34 = .ok (.ifCond .ne 7, 3) := by decide +kernel
theorem dX6_restore_37 : decode cX6_restore 37 = .ok (.iconst 1, 1) := by decide +kernel
theorem dX6_restore_38 : decode cX6_restore 38 = .ok (.goto 4, 3) := by decide +kernel
theorem dX6_restore_41 : decode cX6_restore 41 = .ok (.iconst 0, 1) := by decide +kernel
theorem dX6_restore_42 : decode cX6_restore 42 = .ok (.iconst 2, 1) := by decide +kernel
theorem dX6_restore_43 : decode cX6_restore 43 = .ok (.invokevirtual 40, 3) := by decide +kernel
theorem dX6_restore_46 : decode cX6_restore 46 = .ok (.ifCond .eq 5, 3) := by decide +kernel
theorem dX6_restore_49 : decode cX6_restore 49 = .ok (.iconst 0, 1) := by decide +kernel
theorem dX6_restore_50 : decode cX6_restore 50 = .ok (.ireturn, 1) := by decide +kernel
theorem dX6_restore_51 : decode cX6_restore 51 = .ok (.aload_n 0, 1) := by decide +kernel
theorem dX6_restore_52 : decode cX6_restore 52 = .ok (.bipush 9, 2) := by decide +kernel
theorem dX6_restore_54 : decode cX6_restore 54 = .ok (.iload_n 1, 1) := by decide +kernel
theorem dX6_restore_55 : decode cX6_restore 55 = .ok (.iadd, 1) := by decide +kernel
theorem dX6_restore_56 : decode cX6_restore 56 = .ok (.invokevirtual 201, 3) := by decide +kernel
theorem dX6_restore_59 : decode cX6_restore 59 = .ok (.aload_n 0, 1) := by decide +kernel
theorem dX6_restore_60 : decode cX6_restore 60 = .ok (.iconst 0, 1) := by decide +kernel
theorem dX6_restore_61 : decode cX6_restore 61 = .ok (.putfield 204, 3) := by decide +kernel
theorem dX6_restore_64 : decode cX6_restore 64 = .ok (.aload_n 0, 1) := by decide +kernel
theorem dX6_restore_65 : decode cX6_restore 65 = .ok (.invokevirtual 236, 3) := by decide +kernel
theorem dX6_restore_68 : decode cX6_restore 68 = .ok (.ireturn, 1) := by decide +kernel
