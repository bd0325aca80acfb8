theorem dX0_init_0 : decode cX0_init 0 = .ok (.aload_n 0, 1) := by decide +kernel
theorem dX0_init_1 : decode cX0_init 1 = .ok (.invokespecial 3, 3) := by decide +kernel
theorem dX0_init_4 : decode cX0_init 4 = .ok (.aload_n 0, 1) := by decide +kernel
theorem dX0_init_5 : decode cX0_init 5 = .ok (.new 9, 3) := by decide +kernel
theorem dX0_init_8 : decode cX0_init 8 = .ok (.dup, 1) := by decide +kernel
theorem dX0_init_9 : decode cX0_init 9 = .ok (.invokespecial 11, 3) := by decide +kernel
theorem dX0_init_12 : decode cX0_init 12 = .ok (.putfield 12, 3) := by decide +kernel
theorem dX0_init_15 : decode cX0_init 15 = .ok (.aload_n 0, 1) := by decide +kernel
theorem dX0_init_16 : decode cX0_init 16 = .ok (.bipush 96, 2) := by decide +kernel
theorem dX0_init_18 : decode cX0_init 18 = .ok (.newarray .boolean, 2) := by decide +kernel
theorem dX0_init_20 : decode cX0_init 20 = .ok (.putfield 18, 3) := by decide +kernel
theorem dX0_init_23 : decode cX0_init 23 = .ok (.aload_n 0, 1) := by decide +kernel
theorem dX0_init_24 : decode cX0_init 24 = .ok (.bipush 96, 2) := by decide +kernel
theorem dX0_init_26 : decode cX0_init 26 = .ok (.newarray .int, 2) := by decide +kernel
theorem dX0_init_28 : decode cX0_init 28 = .ok (.putfield 22, 3) := by decide +kernel
theorem dX0_init_31 : decode cX0_init 31 = .ok (.aload_n 0, 1) := by decide +kernel
theorem dX0_init_32 : decode cX0_init 32 = .ok (.bipush 96, 2) := by decide +kernel
theorem dX0_init_34 : decode cX0_init 34 = .ok (.newarray .int, 2) := by decide +kernel
theorem dX0_init_36 : decode cX0_init 36 = .ok (.putfield 26, 3) := by decide +kernel
theorem dX0_init_39 : decode cX0_init 39 = .ok (.return_, 1) := by decide +kernel
theorem dX0_makeCopy_0 : decode cX0_makeCopy 0 = .ok (.aload_n 0, 1) := by decide +kernel
theorem dX0_makeCopy_1 : decode cX0_makeCopy 1 = .ok (.getfield 12, 3) := by decide +kernel
theorem dX0_makeCopy_4 : decode cX0_makeCopy 4 = .ok (.getfield 29, 3) := by decide +kernel
theorem dX0_makeCopy_7 : decode cX0_makeCopy 7 = .ok (.iconst 0, 1) := by decide +kernel
theorem dX0_makeCopy_8 : decode cX0_makeCopy 8 = .ok (.iaload, 1) := by decide +kernel
theorem dX0_makeCopy_9 : decode cX0_makeCopy 9 = .ok (.istore 4, 2) := by decide +kernel
theorem dX0_makeCopy_11 : decode cX0_makeCopy 11 = .ok (.aload_n 0, 1) := by decide +kernel
theorem dX0_makeCopy_12 : decode cX0_makeCopy 12 = .ok (.getfield 12, 3) := by decide +kernel
theorem dX0_makeCopy_15 : decode cX0_makeCopy 15 = .ok (.getfield 29, 3) := by decide +kernel
theorem dX0_makeCopy_18 : decode cX0_makeCopy 18 = .ok (.iconst 0, 1) := by decide +kernel
theorem dX0_makeCopy_19 : decode cX0_makeCopy 19 = .ok (.dup2, 1) := by decide +kernel
theorem dX0_makeCopy_20 : decode cX0_makeCopy 20 = .ok (.iaload, 1) := by decide +kernel
theorem dX0_makeCopy_21 : decode cX0_makeCopy 21 = .ok (.iconst 1, 1) := by decide +kernel
theorem dX0_makeCopy_22 : decode cX0_makeCopy 22 = .ok (.iadd, 1) := by decide +kernel
theorem dX0_makeCopy_23 : decode cX0_makeCopy 23 = .ok (.iastore, 1) := by decide +kernel
theorem dX0_makeCopy_24 : decode cX0_makeCopy 24 = .ok (.aload_n 0, 1) := by decide +kernel
theorem dX0_makeCopy_25 : decode cX0_makeCopy 25 = .ok (.getfield 12, 3) := by decide +kernel
theorem dX0_makeCopy_28 : decode cX0_makeCopy 28 = .ok (.getfield 29, 3) := by decide +kernel
theorem dX0_makeCopy_31 : decode cX0_makeCopy 31 = .ok (.iconst 1, 1) := by decide +kernel
theorem dX0_makeCopy_32 : decode cX0_makeCopy 32 = .ok (.dup2, 1) := by decide +kernel
theorem dX0_makeCopy_33 : decode cX0_makeCopy 33 = .ok (.iaload, 1) := by decide +kernel
theorem dX0_makeCopy_34 : decode cX0_makeCopy 34 = .ok (.iload_n 3, 1) := by decide +kernel
theorem dX0_makeCopy_35 : decode cX0_makeCopy 35 = .ok (.iadd, 1) := by decide +kernel
theorem dX0_makeCopy_36 : decode cX0_makeCopy 36 = .ok (.iastore, 1) := by decide +kernel
theorem dX0_makeCopy_37 : decode cX0_makeCopy 37 = .ok (.aload_n 0, 1) := by decide +kernel
theorem dX0_makeCopy_38 : decode cX0_makeCopy 38 = .ok (.getfield 12, 3) := by decide +kernel
theorem dX0_makeCopy_41 : decode cX0_makeCopy 41 = .ok (.iconst 0, 1) := by decide +kernel
theorem dX0_makeCopy_42 : decode cX0_makeCopy 42 = .ok (.iload_n 2, 1) := by decide +kernel
theorem dX0_makeCopy_43 : decode cX0_makeCopy 43 = .ok (.iload_n 3, 1) := by decide +kernel
theorem dX0_makeCopy_44 : decode cX0_makeCopy 44 = .ok (.invokevirtual 32, 3) := by decide +kernel
theorem dX0_makeCopy_47 : decode cX0_makeCopy 47 = .ok (.aload_n 0, 1) := by decide +kernel
theorem dX0_makeCopy_48 : decode cX0_makeCopy 48 = .ok (.iload_n 2, 1) := by decide +kernel
theorem dX0_makeCopy_49 : decode cX0_makeCopy 49 = .ok (.iload_n 2, 1) := by decide +kernel
theorem dX0_makeCopy_50 : decode cX0_makeCopy 50 = .ok (.iload_n 3, 1) := by decide +kernel
theorem dX0_makeCopy_51 : decode cX0_makeCopy 51 = .ok (.iadd, 1) := by decide +kernel
theorem dX0_makeCopy_52 : decode cX0_makeCopy 52 = .ok (.iconst 1, 1) := by decide +kernel
theorem dX0_makeCopy_53 : decode cX0_makeCopy 53 = .ok (.isub, 1) := by decide +kernel
theorem dX0_makeCopy_54 : decode cX0_makeCopy 54 = .ok (.invokevirtual 36, 3) := by decide +kernel
theorem dX0_makeCopy_57 : decode cX0_makeCopy 57 = .ok (.aload_n 0, 1) := by decide +kernel
theorem dX0_makeCopy_58 : decode cX0_makeCopy 58 = .ok (.invokevirtual 40, 3) := by decide +kernel
theorem dX0_makeCopy_61 : decode cX0_makeCopy 61 = .ok (.pop, 1) := by decide +kernel
theorem dX0_makeCopy_62 : decode cX0_makeCopy 62 = .ok (.iconst 0, 1) := by decide +kernel
theorem dX0_makeCopy_63 : decode cX0_makeCopy 63 = .ok (.istore 5, 2) := by decide +kernel
theorem dX0_makeCopy_65 : decode cX0_makeCopy 65 = .ok (.iload 5, 2) := by decide +kernel
theorem dX0_makeCopy_67 : decode cX0_makeCopy 67 = .ok (.iload_n 3, 1) := by decide +kernel
theorem dX0_makeCopy_68 : decode cX0_makeCopy 68 = .ok (.if_icmp .ge 27, 3) := by decide +kernel
theorem dX0_makeCopy_71 : decode cX0_makeCopy 71 = .ok (.aload_n 0, 1) := by decide +kernel
theorem dX0_makeCopy_72 : decode cX0_makeCopy 72 = .ok (.getfield 22, 3) := by decide +kernel
theorem dX0_makeCopy_75 : decode cX0_makeCopy 75 = .ok (.iload 5, 2) := by decide +kernel
theorem dX0_makeCopy_77 : decode cX0_makeCopy 77 = .ok (.aload_n 0, 1) := by decide +kernel
theorem dX0_makeCopy_78 : decode cX0_makeCopy 78 = .ok (.getfield 12, 3) := by decide +kernel
theorem dX0_makeCopy_81 : decode cX0_makeCopy 81 = .ok (.iload_n 1, 1) := by decide +kernel
theorem dX0_makeCopy_82 : decode cX0_makeCopy 82 = .ok (.iload 5, 2) := by decide +kernel
theorem dX0_makeCopy_84 : decode cX0_makeCopy 84 = .ok (.iadd, 1) := by decide +kernel
theorem dX0_makeCopy_85 : decode cX0_makeCopy 85 = .ok (.invokevirtual 44, 3) := by decide +kernel
theorem dX0_makeCopy_88 : decode cX0_makeCopy 88 = .ok (.iastore, 1) := by decide +kernel
theorem dX0_makeCopy_89 : decode cX0_makeCopy 89 = .ok (.iinc 5 1, 3) := by decide +kernel
theorem dX0_makeCopy_92 : decode cX0_makeCopy 92 = .ok (.goto (-27), 3) := by decide +kernel
theorem dX0_makeCopy_95 : decode cX0_makeCopy 95 = .ok (.aload_n 0, 1) := by decide +kernel
theorem dX0_makeCopy_96 : decode cX0_makeCopy 96 = .ok (.invokevirtual 48, 3) := by decide +kernel
theorem dX0_makeCopy_99 : decode cX0_makeCopy 99 = .ok (.iconst 0, 1) := by decide +kernel
theorem dX0_makeCopy_100 : decode cX0_makeCopy 100 = .ok (.istore 5, 2) := by decide +kernel
theorem dX0_makeCopy_102 : decode cX0_makeCopy 102 = .ok (.iload 5, 2) := by decide +kernel
theorem dX0_makeCopy_104 : decode cX0_makeCopy 104 = .ok (.iload_n 3, 1) := by decide +kernel
theorem dX0_makeCopy_105 : decode cX0_makeCopy 105 = .ok (.if_icmp .ge 84, 3) := by decide +kernel
theorem dX0_makeCopy_108 : decode cX0_makeCopy 108 = .ok (.aload_n 0, 1) := by decide +kernel
theorem dX0_makeCopy_109 : decode cX0_makeCopy 109 = .ok (.getfield 18, 3) := by decide +kernel
theorem dX0_makeCopy_112 : decode cX0_makeCopy 112 = .ok (.iload_n 1, 1) := by decide +kernel
theorem dX0_makeCopy_113 : decode cX0_makeCopy 113 = .ok (.iload 5, 2) := by decide +kernel
theorem dX0_makeCopy_115 : decode cX0_makeCopy 115 = .ok (.iadd, 1) := by decide +kernel
theorem dX0_makeCopy_116 : decode cX0_makeCopy 116 = .ok (.baload, 1) := by decide +kernel
theorem dX0_makeCopy_117 : decode cX0_makeCopy 117 = .ok (.ifCond .eq 52, 3) := by decide +kernel
theorem dX0_makeCopy_120 : decode cX0_makeCopy 120 = .ok (.aload_n 0, 1) := by decide +kernel
theorem dX0_makeCopy_121 : decode cX0_makeCopy 121 = .ok (.getfield 12, 3) := by decide +kernel
theorem dX0_makeCopy_124 : decode cX0_makeCopy 124 = .ok (.getfield 51, 3) := by decide +kernel
theorem dX0_makeCopy_127 : decode cX0_makeCopy 127 = .ok (.iload_n 2, 1) := by decide +kernel
theorem dX0_makeCopy_128 : decode cX0_makeCopy 128 = .ok (.iload 5, 2) := by decide +kernel
theorem dX0_makeCopy_130 : decode cX0_makeCopy 130 = .ok (.iadd, 1) := by decide +kernel
theorem dX0_makeCopy_131 : decode cX0_makeCopy 131 = .ok (.aload_n 0, 1) := by decide +kernel
theorem dX0_makeCopy_132 : decode cX0_makeCopy 132 = .ok (.getfield 22, 3) := by decide +kernel
theorem dX0_makeCopy_135 : decode cX0_makeCopy 135 = .ok (.iload 5, 2) := by decide +kernel
theorem dX0_makeCopy_137 : decode cX0_makeCopy 137 = .ok (.iaload, 1) := by decide +kernel
theorem dX0_makeCopy_138 : decode cX0_makeCopy 138 = .ok (.iastore, 1) := by decide +kernel
theorem dX0_makeCopy_139 : decode cX0_makeCopy 139 = .ok (.aload_n 0, 1) := by decide +kernel
theorem dX0_makeCopy_140 : decode cX0_makeCopy 140 = .ok (.getfield 12, 3) := by decide +kernel
theorem dX0_makeCopy_143 : decode cX0_makeCopy 143 = .ok (.iconst 3, 1) := by decide +kernel
theorem dX0_makeCopy_144 : decode cX0_makeCopy 144 = .ok (.iload_n 2, 1) := by decide +kernel
theorem dX0_makeCopy_145 : decode cX0_makeCopy 145 = .ok (.iload 5, 2) := by decide +kernel
theorem dX0_makeCopy_147 : decode cX0_makeCopy 147 = .ok (.iadd, 1) := by decide +kernel
theorem dX0_makeCopy_148 : decode cX0_makeCopy 148 = .ok (.aload_n 0, 1) := by decide +kernel
theorem dX0_makeCopy_149 : decode cX0_makeCopy 149 = .ok (.getfield 22, 3) := by decide +kernel
theorem dX0_makeCopy_152 : decode cX0_makeCopy 152 = .ok (.iload 5, 2) := by decide +kernel
theorem dX0_makeCopy_154 : decode cX0_makeCopy 154 = .ok (.iaload, 1) := by decide +kernel
theorem dX0_makeCopy_155 : decode cX0_makeCopy 155 = .ok (.invokevirtual 32, 3) := by decide +kernel
theorem dX0_makeCopy_158 : decode cX0_makeCopy 158 = .ok (.aload_n 0, 1) := by decide +kernel
theorem dX0_makeCopy_159 : decode cX0_makeCopy 159 = .ok (.getfield 12, 3) := by decide +kernel
theorem dX0_makeCopy_162 : decode cX0_makeCopy 162 = .ok (.iconst 3, 1) := by decide +kernel
theorem dX0_makeCopy_163 : decode cX0_makeCopy 163 = .ok (.invokevirtual 54, 3) := by decide +kernel
theorem dX0_makeCopy_166 : decode cX0_makeCopy 166 = .ok (.goto 17, 3) := by decide +kernel
theorem dX0_makeCopy_169 : decode cX0_makeCopy 169 = .ok (.aload_n 0, 1) := by decide +kernel
theorem dX0_makeCopy_170 : decode cX0_makeCopy 170 = .ok (.iload_n 2, 1) := by decide +kernel
theorem dX0_makeCopy_171 : decode cX0_makeCopy 171 = .ok (.iload 5, 2) := by decide +kernel
theorem dX0_makeCopy_173 : decode cX0_makeCopy 173 = .ok (.iadd, 1) := by decide +kernel
theorem dX0_makeCopy_174 : decode cX0_makeCopy 174 = .ok (.iload_n 1, 1) := by decide +kernel
theorem dX0_makeCopy_175 : decode cX0_makeCopy 175 = .ok (.iload 5, 2) := by decide +kernel
theorem dX0_makeCopy_177 : decode cX0_makeCopy 177 = .ok (.iadd, 1) := by decide +kernel
theorem dX0_makeCopy_178 : decode cX0_makeCopy 178 = .ok (.iload 4, 2) := by decide +kernel
theorem dX0_makeCopy_180 : decode cX0_makeCopy 180 = .ok (.invokevirtual 58, 3) := by decide +kernel
theorem dX0_makeCopy_183 : decode cX0_makeCopy 183 = .ok (.iinc 5 1, 3) := by decide +kernel
theorem dX0_makeCopy_186 : decode cX0_makeCopy 186 = .ok (.goto (-84), 3) := by decide +kernel
theorem dX0_makeCopy_189 : decode cX0_makeCopy 189 = .ok (.aload_n 0, 1) := by decide +kernel
theorem dX0_makeCopy_190 : decode cX0_makeCopy 190 = .ok (.invokevirtual 61, 3) := by decide +kernel
theorem dX0_makeCopy_193 : decode cX0_makeCopy 193 = .ok (.iload 4, 2) := by decide +kernel
theorem dX0_makeCopy_195 : decode cX0_makeCopy 195 = .ok (.ireturn, 1) := by decide +kernel
theorem dX0_owe_0 : decode cX0_owe 0 = .ok (.aload_n 0, 1) := by decide +kernel
theorem dX0_owe_1 : decode cX0_owe 1 = .ok (.getfield 12, 3) := by decide +kernel
theorem dX0_owe_4 : decode cX0_owe 4 = .ok (.getfield 64, 3) := by decide +kernel
theorem dX0_owe_7 : decode cX0_owe 7 = .ok (.iconst 3, 1) := by decide +kernel
theorem dX0_owe_8 : decode cX0_owe 8 = .ok (.iaload, 1) := by decide +kernel
theorem dX0_owe_9 : decode cX0_owe 9 = .ok (.iconst 1, 1) := by decide +kernel
theorem dX0_owe_10 : decode cX0_owe 10 = .ok (.if_icmp .ne 7, 3) := by decide +kernel
theorem dX0_owe_13 : decode cX0_owe 13 = .ok (.iconst 1, 1) := by decide +kernel
theorem dX0_owe_14 : decode cX0_owe 14 = .ok (.goto 4, 3) := by decide +kernel
theorem dX0_owe_17 : decode cX0_owe 17 = .ok (.iconst 0, 1) := by decide +kernel
theorem dX0_owe_18 : decode cX0_owe 18 = .ok (.istore 4, 2) := by decide +kernel
theorem dX0_owe_20 : decode cX0_owe 20 = .ok (.aload_n 0, 1) := by decide +kernel
theorem dX0_owe_21 : decode cX0_owe 21 = .ok (.getfield 12, 3) := by decide +kernel
theorem dX0_owe_24 : decode cX0_owe 24 = .ok (.getfield 67, 3) := by decide +kernel
theorem dX0_owe_27 : decode cX0_owe 27 = .ok (.iload_n 1, 1) := by decide +kernel
theorem dX0_owe_28 : decode cX0_owe 28 = .ok (.iload 4, 2) := by decide +kernel
theorem dX0_owe_30 : decode cX0_owe 30 = .ok (.ifCond .eq 14, 3) := by decide +kernel
theorem dX0_owe_33 : decode cX0_owe 33 = .ok (.aload_n 0, 1) := by decide +kernel
theorem dX0_owe_34 : decode cX0_owe 34 = .ok (.getfield 12, 3) := by decide +kernel
theorem dX0_owe_37 : decode cX0_owe 37 = .ok (.iload_n 2, 1) := by decide +kernel
theorem dX0_owe_38 : decode cX0_owe 38 = .ok (.invokevirtual 70, 3) := by decide +kernel
theorem dX0_owe_41 : decode cX0_owe 41 = .ok (.goto 4, 3) := by decide +kernel
theorem dX0_owe_44 : decode cX0_owe 44 = .ok (.iload_n 2, 1) := by decide +kernel
theorem dX0_owe_45 : decode cX0_owe 45 = .ok (.iastore, 1) := by decide +kernel
theorem dX0_owe_46 : decode cX0_owe 46 = .ok (.aload_n 0, 1) := by decide +kernel
theorem dX0_owe_47 : decode cX0_owe 47 = .ok (.getfield 12, 3) := by decide +kernel
theorem dX0_owe_50 : decode cX0_owe 50 = .ok (.getfield 73, 3) := by decide +kernel
theorem dX0_owe_53 : decode cX0_owe 53 = .ok (.iload_n 1, 1) := by decide +kernel
theorem dX0_owe_54 : decode cX0_owe 54 = .ok (.iload_n 3, 1) := by decide +kernel
theorem dX0_owe_55 : decode cX0_owe 55 = .ok (.iastore, 1) := by decide +kernel
theorem dX0_owe_56 : decode cX0_owe 56 = .ok (.return_, 1) := by decide +kernel
theorem dX0_fillRow_0 : decode cX0_fillRow 0 = .ok (.aload_n 0, 1) := by decide +kernel
theorem dX0_fillRow_1 : decode cX0_fillRow 1 = .ok (.iload_n 1, 1) := by decide +kernel
theorem dX0_fillRow_2 : decode cX0_fillRow 2 = .ok (.iload_n 2, 1) := by decide +kernel
theorem dX0_fillRow_3 : decode cX0_fillRow 3 = .ok (.invokevirtual 36, 3) := by decide +kernel
theorem dX0_fillRow_6 : decode cX0_fillRow 6 = .ok (.aload_n 0, 1) := by decide +kernel
theorem dX0_fillRow_7 : decode cX0_fillRow 7 = .ok (.invokevirtual 40, 3) := by decide +kernel
theorem dX0_fillRow_10 : decode cX0_fillRow 10 = .ok (.istore 4, 2) := by decide +kernel
theorem dX0_fillRow_12 : decode cX0_fillRow 12 = .ok (.aload_n 0, 1) := by decide +kernel
theorem dX0_fillRow_13 : decode cX0_fillRow 13 = .ok (.invokevirtual 48, 3) := by decide +kernel
theorem dX0_fillRow_16 : decode cX0_fillRow 16 = .ok (.iload_n 1, 1) := by decide +kernel
theorem dX0_fillRow_17 : decode cX0_fillRow 17 = .ok (.istore 5, 2) := by decide +kernel
theorem dX0_fillRow_19 : decode cX0_fillRow 19 = .ok (.iload 5, 2) := by decide +kernel
theorem dX0_fillRow_21 : decode cX0_fillRow 21 = .ok (.iload_n 2, 1) := by decide +kernel
theorem dX0_fillRow_22 : decode cX0_fillRow 22 = .ok (.if_icmp .gt 20, 3) := by decide +kernel
theorem dX0_fillRow_25 : decode cX0_fillRow 25 = .ok (.aload_n 0, 1) := by decide +kernel
theorem dX0_fillRow_26 : decode cX0_fillRow 26 = .ok (.getfield 12, 3) := by decide +kernel
theorem dX0_fillRow_29 : decode cX0_fillRow 29 = .ok (.getfield 51, 3) := by decide +kernel
theorem dX0_fillRow_32 : decode cX0_fillRow 32 = .ok (.iload 5, 2) := by decide +kernel
theorem dX0_fillRow_34 : decode cX0_fillRow 34 = .ok (.iload_n 3, 1) := by decide +kernel
theorem dX0_fillRow_35 : decode cX0_fillRow 35 = .ok (.iastore, 1) := by decide +kernel
theorem dX0_fillRow_36 : decode cX0_fillRow 36 = .ok (.iinc 5 1, 3) := by decide +kernel
theorem dX0_fillRow_39 : decode cX0_fillRow 39 = .ok (.goto (-20), 3) := by decide +kernel
theorem dX0_fillRow_42 : decode cX0_fillRow 42 = .ok (.iload 4, 2) := by decide +kernel
theorem dX0_fillRow_44 : decode cX0_fillRow 44 = .ok (.ireturn, 1) := by decide +kernel
theorem dX0_swapPlaces_0 : decode cX0_swapPlaces 0 = .ok (.aload_n 0, 1) := by decide +kernel
theorem dX0_swapPlaces_1 : decode cX0_swapPlaces 1 = .ok (.getfield 12, 3) := by decide +kernel
theorem dX0_swapPlaces_4 : decode cX0_swapPlaces 4 = .ok (.iload_n 1, 1) := by decide +kernel
theorem dX0_swapPlaces_5 : decode cX0_swapPlaces 5 = .ok (.invokevirtual 44, 3) := by decide +kernel
theorem dX0_swapPlaces_8 : decode cX0_swapPlaces 8 = .ok (.istore_n 3, 1) := by decide +kernel
theorem dX0_swapPlaces_9 : decode cX0_swapPlaces 9 = .ok (.aload_n 0, 1) := by decide +kernel
theorem dX0_swapPlaces_10 : decode cX0_swapPlaces 10 = .ok (.getfield 12, 3) := by decide +kernel
theorem dX0_swapPlaces_13 : decode cX0_swapPlaces 13 = .ok (.iload_n 2, 1) := by decide +kernel
theorem dX0_swapPlaces_14 : decode cX0_swapPlaces 14 = .ok (.invokevirtual 44, 3) := by decide +kernel
theorem dX0_swapPlaces_17 : decode cX0_swapPlaces 17 = .ok (.istore 4, 2) := by decide +kernel
theorem dX0_swapPlaces_19 : decode cX0_swapPlaces 19 = .ok (.aload_n 0, 1) := by decide +kernel
theorem dX0_swapPlaces_20 : decode cX0_swapPlaces 20 = .ok (.iload_n 1, 1) := by decide +kernel
theorem dX0_swapPlaces_21 : decode cX0_swapPlaces 21 = .ok (.iload_n 1, 1) := by decide +kernel
theorem dX0_swapPlaces_22 : decode cX0_swapPlaces 22 = .ok (.invokevirtual 36, 3) := by decide +kernel
theorem dX0_swapPlaces_25 : decode cX0_swapPlaces 25 = .ok (.aload_n 0, 1) := by decide +kernel
theorem dX0_swapPlaces_26 : decode cX0_swapPlaces 26 = .ok (.getfield 18, 3) := by decide +kernel
theorem dX0_swapPlaces_29 : decode cX0_swapPlaces 29 = .ok (.iload_n 2, 1) := by decide +kernel
theorem dX0_swapPlaces_30 : decode cX0_swapPlaces 30 = .ok (.iconst 1, 1) := by decide +kernel
theorem dX0_swapPlaces_31 : decode cX0_swapPlaces 31 = .ok (.bastore, 1) := by decide +kernel
theorem dX0_swapPlaces_32 : decode cX0_swapPlaces 32 = .ok (.aload_n 0, 1) := by decide +kernel
theorem dX0_swapPlaces_33 : decode cX0_swapPlaces 33 = .ok (.invokevirtual 40, 3) := by decide +kernel
theorem dX0_swapPlaces_36 : decode cX0_swapPlaces 36 = .ok (.istore 5, 2) := by decide +kernel
theorem dX0_swapPlaces_38 : decode cX0_swapPlaces 38 = .ok (.aload_n 0, 1) := by decide +kernel
theorem dX0_swapPlaces_39 : decode cX0_swapPlaces 39 = .ok (.invokevirtual 48, 3) := by decide +kernel
theorem dX0_swapPlaces_42 : decode cX0_swapPlaces 42 = .ok (.aload_n 0, 1) := by decide +kernel
theorem dX0_swapPlaces_43 : decode cX0_swapPlaces 43 = .ok (.getfield 12, 3) := by decide +kernel
theorem dX0_swapPlaces_46 : decode cX0_swapPlaces 46 = .ok (.getfield 51, 3) := by decide +kernel
theorem dX0_swapPlaces_49 : decode cX0_swapPlaces 49 = .ok (.iload_n 1, 1) := by decide +kernel
theorem dX0_swapPlaces_50 : decode cX0_swapPlaces 50 = .ok (.iload 4, 2) := by decide +kernel
theorem dX0_swapPlaces_52 : decode cX0_swapPlaces 52 = .ok (.iastore, 1) := by decide +kernel
theorem dX0_swapPlaces_53 : decode cX0_swapPlaces 53 = .ok (.aload_n 0, 1) := by decide +kernel
theorem dX0_swapPlaces_54 : decode cX0_swapPlaces 54 = .ok (.getfield 12, 3) := by decide +kernel
theorem dX0_swapPlaces_57 : decode cX0_swapPlaces 57 = .ok (.getfield 51, 3) := by decide +kernel
theorem dX0_swapPlaces_60 : decode cX0_swapPlaces 60 = .ok (.iload_n 2, 1) := by decide +kernel
theorem dX0_swapPlaces_61 : decode cX0_swapPlaces 61 = .ok (.iload_n 3, 1) := by decide +kernel
theorem dX0_swapPlaces_62 : decode cX0_swapPlaces 62 = .ok (.iastore, 1) := by decide +kernel
theorem dX0_swapPlaces_63 : decode cX0_swapPlaces 63 = .ok (.iload 5, 2) := by decide +kernel
theorem dX0_swapPlaces_65 : decode cX0_swapPlaces 65 = .ok (.ireturn, 1) := by decide +kernel
theorem dX0_fetchPlace_0 : decode cX0_fetchPlace 0 = .ok (.aload_n 0, 1) := by decide +kernel
theorem dX0_fetchPlace_1 : decode cX0_fetchPlace 1 = .ok (.getfield 12, 3) := by decide +kernel
theorem dX0_fetchPlace_4 : decode cX0_fetchPlace 4 = .ok (.getfield 29, 3) := by decide +kernel
theorem dX0_fetchPlace_7 : decode cX0_fetchPlace 7 = .ok (.bipush 8, 2) := by decide +kernel
theorem dX0_fetchPlace_9 : decode cX0_fetchPlace 9 = .ok (.dup2, 1) := by decide +kernel
theorem dX0_fetchPlace_10 : decode cX0_fetchPlace 10 = .ok (.iaload, 1) := by decide +kernel
theorem dX0_fetchPlace_11 : decode cX0_fetchPlace 11 = .ok (.iconst 1, 1) := by decide +kernel
theorem dX0_fetchPlace_12 : decode cX0_fetchPlace 12 = .ok (.iadd, 1) := by decide +kernel
theorem dX0_fetchPlace_13 : decode cX0_fetchPlace 13 = .ok (.iastore, 1) := by decide +kernel
theorem dX0_fetchPlace_14 : decode cX0_fetchPlace 14 = .ok (.aload_n 0, 1) := by decide +kernel
theorem dX0_fetchPlace_15 : decode cX0_fetchPlace 15 = .ok (.getfield 12, 3) := by decide +kernel
theorem dX0_fetchPlace_18 : decode cX0_fetchPlace 18 = .ok (.getfield 29, 3) := by decide +kernel
theorem dX0_fetchPlace_21 : decode cX0_fetchPlace 21 = .ok (.bipush 6, 2) := by decide +kernel
theorem dX0_fetchPlace_23 : decode cX0_fetchPlace 23 = .ok (.dup2, 1) := by decide +kernel
theorem dX0_fetchPlace_24 : decode cX0_fetchPlace 24 = .ok (.iaload, 1) := by decide +kernel
theorem dX0_fetchPlace_25 : decode cX0_fetchPlace 25 = .ok (.aload_n 0, 1) := by decide +kernel
theorem dX0_fetchPlace_26 : decode cX0_fetchPlace 26 = .ok (.getfield 12, 3) := by decide +kernel
theorem dX0_fetchPlace_29 : decode cX0_fetchPlace 29 = .ok (.iload_n 1, 1) := by decide +kernel
theorem dX0_fetchPlace_30 : decode cX0_fetchPlace 30 = .ok (.invokevirtual 76, 3) := by decide +kernel
theorem dX0_fetchPlace_33 : decode cX0_fetchPlace 33 = .ok (.iadd, 1) := by decide +kernel
theorem dX0_fetchPlace_34 : decode cX0_fetchPlace 34 = .ok (.iastore, 1) := by decide +kernel
theorem dX0_fetchPlace_35 : decode cX0_fetchPlace 35 = .ok (.aload_n 0, 1) := by decide +kernel
theorem dX0_fetchPlace_36 : decode cX0_fetchPlace 36 = .ok (.getfield 12, 3) := by decide +kernel
theorem dX0_fetchPlace_39 : decode cX0_fetchPlace 39 = .ok (.getfield 64, 3) := by decide +kernel
theorem dX0_fetchPlace_42 : decode cX0_fetchPlace 42 = .ok (.iconst 4, 1) := by decide +kernel
theorem dX0_fetchPlace_43 : decode cX0_fetchPlace 43 = .ok (.iaload, 1) := by decide +kernel
theorem dX0_fetchPlace_44 : decode cX0_fetchPlace 44 = .ok (.iconst 1, 1) := by decide +kernel
theorem dX0_fetchPlace_45 : decode cX0_fetchPlace 45 = .ok (.if_icmp .ne 9, 3) := by decide +kernel
theorem dX0_fetchPlace_48 : decode cX0_fetchPlace 48 = .ok (.aload_n 0, 1) := by decide +kernel
theorem dX0_fetchPlace_49 : decode cX0_fetchPlace 49 = .ok (.iload_n 1, 1) := by decide +kernel
theorem dX0_fetchPlace_50 : decode cX0_fetchPlace 50 = .ok (.iconst 2, 1) := by decide +kernel
theorem dX0_fetchPlace_51 : decode cX0_fetchPlace 51 = .ok (.invokevirtual 79, 3) := by decide +kernel
theorem dX0_fetchPlace_54 : decode cX0_fetchPlace 54 = .ok (.aload_n 0, 1) := by decide +kernel
theorem dX0_fetchPlace_55 : decode cX0_fetchPlace 55 = .ok (.getfield 12, 3) := by decide +kernel
theorem dX0_fetchPlace_58 : decode cX0_fetchPlace 58 = .ok (.iload_n 1, 1) := by decide +kernel
theorem dX0_fetchPlace_59 : decode cX0_fetchPlace 59 = .ok (.invokevirtual 44, 3) := by decide +kernel
theorem dX0_fetchPlace_62 : decode cX0_fetchPlace 62 = .ok (.ireturn, 1) := by decide +kernel
theorem dX0_passTicks_0 : decode cX0_passTicks 0 = .ok (.iload_n 1, 1) := by decide +kernel
theorem dX0_passTicks_1 : decode cX0_passTicks 1 = .ok (.aload_n 0, 1) := by decide +kernel
theorem dX0_passTicks_2 : decode cX0_passTicks 2 = .ok (.getfield 12, 3) := by decide +kernel
theorem dX0_passTicks_5 : decode cX0_passTicks 5 = .ok (.getfield 64, 3) := by decide +kernel
theorem dX0_passTicks_8 : decode cX0_passTicks 8 = .ok (.iconst 0, 1) := by decide +kernel
theorem dX0_passTicks_9 : decode cX0_passTicks 9 = .ok (.iaload, 1) := by decide +kernel
theorem dX0_passTicks_10 : decode cX0_passTicks 10 = .ok (.imul, 1) := by decide +kernel
theorem dX0_passTicks_11 : decode cX0_passTicks 11 = .ok (.aload_n 0, 1) := by decide +kernel
theorem dX0_passTicks_12 : decode cX0_passTicks 12 = .ok (.getfield 12, 3) := by decide +kernel
theorem dX0_passTicks_15 : decode cX0_passTicks 15 = .ok (.invokevirtual 82, 3) := by decide +kernel
theorem dX0_passTicks_18 : decode cX0_passTicks 18 = .ok (.invokestatic 85, 3) := by decide +kernel
theorem dX0_passTicks_21 : decode cX0_passTicks 21 = .ok (.istore_n 2, 1) := by decide +kernel
theorem dX0_passTicks_22 : decode cX0_passTicks 22 = .ok (.iconst 0, 1) := by decide +kernel
theorem dX0_passTicks_23 : decode cX0_passTicks 23 = .ok (.istore_n 3, 1) := by decide +kernel
theorem dX0_passTicks_24 : decode cX0_passTicks 24 = .ok (.iload_n 3, 1) := by decide +kernel
theorem dX0_passTicks_25 : decode cX0_passTicks 25 = .ok (.iload_n 2, 1) := by decide +kernel
theorem dX0_passTicks_26 : decode cX0_passTicks 26 = .ok (.if_icmp .ge 27, 3) := by decide +kernel
theorem dX0_passTicks_29 : decode cX0_passTicks 29 = .ok (.aload_n 0, 1) := by decide +kernel
theorem dX0_passTicks_30 : decode cX0_passTicks 30 = .ok (.aload_n 0, 1) := by decide +kernel
theorem dX0_passTicks_31 : decode cX0_passTicks 31 = .ok (.aload_n 0, 1) := by decide +kernel
theorem dX0_passTicks_32 : decode cX0_passTicks 32 = .ok (.getfield 12, 3) := by decide +kernel
theorem dX0_passTicks_35 : decode cX0_passTicks 35 = .ok (.getfield 64, 3) := by decide +kernel
theorem dX0_passTicks_38 : decode cX0_passTicks 38 = .ok (.iconst 2, 1) := by decide +kernel
theorem dX0_passTicks_39 : decode cX0_passTicks 39 = .ok (.iaload, 1) := by decide +kernel
theorem dX0_passTicks_40 : decode cX0_passTicks 40 = .ok (.invokevirtual 91, 3) := by decide +kernel
theorem dX0_passTicks_43 : decode cX0_passTicks 43 = .ok (.iconst 1, 1) := by decide +kernel
theorem dX0_passTicks_44 : decode cX0_passTicks 44 = .ok (.invokevirtual 79, 3) := by decide +kernel
theorem dX0_passTicks_47 : decode cX0_passTicks 47 = .ok (.iinc 3 1, 3) := by decide +kernel
theorem dX0_passTicks_50 : decode cX0_passTicks 50 = .ok (.goto (-26), 3) := by decide +kernel
theorem dX0_passTicks_53 : decode cX0_passTicks 53 = .ok (.iload_n 2, 1) := by decide +kernel
theorem dX0_passTicks_54 : decode cX0_passTicks 54 = .ok (.ireturn, 1) := by decide +kernel
theorem dX0_payRow_0 : decode cX0_payRow 0 = .ok (.aload_n 0, 1) := by decide +kernel
theorem dX0_payRow_1 : decode cX0_payRow 1 = .ok (.getfield 12, 3) := by decide +kernel
theorem dX0_payRow_4 : decode cX0_payRow 4 = .ok (.iload_n 1, 1) := by decide +kernel
theorem dX0_payRow_5 : decode cX0_payRow 5 = .ok (.iload_n 2, 1) := by decide +kernel
theorem dX0_payRow_6 : decode cX0_payRow 6 = .ok (.invokevirtual 94, 3) := by decide +kernel
theorem dX0_payRow_9 : decode cX0_payRow 9 = .ok (.istore_n 3, 1) := by decide +kernel
theorem dX0_payRow_10 : decode cX0_payRow 10 = .ok (.iload_n 1, 1) := by decide +kernel
theorem dX0_payRow_11 : decode cX0_payRow 11 = .ok (.istore 4, 2) := by decide +kernel
theorem dX0_payRow_13 : decode cX0_payRow 13 = .ok (.iload 4, 2) := by decide +kernel
theorem dX0_payRow_15 : decode cX0_payRow 15 = .ok (.iload_n 2, 1) := by decide +kernel
theorem dX0_payRow_16 : decode cX0_payRow 16 = .ok (.if_icmp .gt 16, 3) := by decide +kernel
theorem dX0_payRow_19 : decode cX0_payRow 19 = .ok (.aload_n 0, 1) := by decide +kernel
theorem dX0_payRow_20 : decode cX0_payRow 20 = .ok (.iload 4, 2) := by decide +kernel
theorem dX0_payRow_22 : decode cX0_payRow 22 = .ok (.iconst 2, 1) := by decide +kernel
theorem dX0_payRow_23 : decode cX0_payRow 23 = .ok (.invokevirtual 79, 3) := by decide +kernel
theorem dX0_payRow_26 : decode cX0_payRow 26 = .ok (.iinc 4 1, 3) := by decide +kernel
theorem dX0_payRow_29 : decode cX0_payRow 29 = .ok (.goto (-16), 3) := by decide +kernel
theorem dX0_payRow_32 : decode cX0_payRow 32 = .ok (.iload_n 3, 1) := by decide +kernel
theorem dX0_payRow_33 : decode cX0_payRow 33 = .ok (.ireturn, 1) := by decide +kernel
theorem dX0_lockRow_0 : decode cX0_lockRow 0 = .ok (.aload_n 0, 1) := by decide +kernel
theorem dX0_lockRow_1 : decode cX0_lockRow 1 = .ok (.iload_n 1, 1) := by decide +kernel
theorem dX0_lockRow_2 : decode cX0_lockRow 2 = .ok (.iload_n 2, 1) := by decide +kernel
theorem dX0_lockRow_3 : decode cX0_lockRow 3 = .ok (.invokevirtual 97, 3) := by decide +kernel
theorem dX0_lockRow_6 : decode cX0_lockRow 6 = .ok (.istore_n 3, 1) := by decide +kernel
theorem dX0_lockRow_7 : decode cX0_lockRow 7 = .ok (.iload_n 1, 1) := by decide +kernel
theorem dX0_lockRow_8 : decode cX0_lockRow 8 = .ok (.istore 4, 2) := by decide +kernel
theorem dX0_lockRow_10 : decode cX0_lockRow 10 = .ok (.iload 4, 2) := by decide +kernel
theorem dX0_lockRow_12 : decode cX0_lockRow 12 = .ok (.iload_n 2, 1) := by decide +kernel
theorem dX0_lockRow_13 : decode cX0_lockRow 13 = .ok (.if_icmp .gt 20, 3) := by decide +kernel
theorem dX0_lockRow_16 : decode cX0_lockRow 16 = .ok (.aload_n 0, 1) := by decide +kernel
theorem dX0_lockRow_17 : decode cX0_lockRow 17 = .ok (.getfield 12, 3) := by decide +kernel
theorem dX0_lockRow_20 : decode cX0_lockRow 20 = .ok (.getfield 100, 3) := by decide +kernel
theorem dX0_lockRow_23 : decode cX0_lockRow 23 = .ok (.iload 4, 2) := by decide +kernel
theorem dX0_lockRow_25 : decode cX0_lockRow 25 = .ok (.iconst 1, 1) := by decide +kernel
theorem dX0_lockRow_26 : decode cX0_lockRow 26 = .ok (.bastore, 1) := by decide +kernel
theorem dX0_lockRow_27 : decode cX0_lockRow 27 = .ok (.iinc 4 1, 3) := by decide +kernel
theorem dX0_lockRow_30 : decode cX0_lockRow 30 = .ok (.goto (-20), 3) := by decide +kernel
theorem dX0_lockRow_33 : decode cX0_lockRow 33 = .ok (.iload_n 3, 1) := by decide +kernel
theorem dX0_lockRow_34 : decode cX0_lockRow 34 = .ok (.ireturn, 1) := by decide +kernel
theorem dX0_keepLimit_0 : decode cX0_keepLimit 0 = .ok (.aload_n 0, 1) := by decide +kernel
theorem dX0_keepLimit_1 : decode cX0_keepLimit 1 = .ok (.getfield 12, 3) := by decide +kernel
theorem dX0_keepLimit_4 : decode cX0_keepLimit 4 = .ok (.invokevirtual 82, 3) := by decide +kernel
theorem dX0_keepLimit_7 : decode cX0_keepLimit 7 = .ok (.aload_n 0, 1) := by decide +kernel
theorem dX0_keepLimit_8 : decode cX0_keepLimit 8 = .ok (.getfield 12, 3) := by decide +kernel
theorem dX0_keepLimit_11 : decode cX0_keepLimit 11 = .ok (.getfield 64, 3) := by decide +kernel
theorem dX0_keepLimit_14 : decode cX0_keepLimit 14 = .ok (.iconst 1, 1) := by decide +kernel
theorem dX0_keepLimit_15 : decode cX0_keepLimit 15 = .ok (.iaload, 1) := by decide +kernel
theorem dX0_keepLimit_16 : decode cX0_keepLimit 16 = .ok (.isub, 1) := by decide +kernel
theorem dX0_keepLimit_17 : decode cX0_keepLimit 17 = .ok (.istore_n 1, 1) := by decide +kernel
theorem dX0_keepLimit_18 : decode cX0_keepLimit 18 = .ok (.iconst 0, 1) := by decide +kernel
theorem dX0_keepLimit_19 : decode cX0_keepLimit 19 = .ok (.istore_n 2, 1) := by decide +kernel
theorem dX0_keepLimit_20 : decode cX0_keepLimit 20 = .ok (.iload_n 2, 1) := by decide +kernel
theorem dX0_keepLimit_21 : decode cX0_keepLimit 21 = .ok (.iload_n 1, 1) := by decide +kernel
theorem dX0_keepLimit_22 : decode cX0_keepLimit 22 = .ok (.if_icmp .ge 27, 3) := by decide +kernel
theorem dX0_keepLimit_25 : decode cX0_keepLimit 25 = .ok (.aload_n 0, 1) := by decide +kernel
theorem dX0_keepLimit_26 : decode cX0_keepLimit 26 = .ok (.aload_n 0, 1) := by decide +kernel
theorem dX0_keepLimit_27 : decode cX0_keepLimit 27 = .ok (.aload_n 0, 1) := by decide +kernel
theorem dX0_keepLimit_28 : decode cX0_keepLimit 28 = .ok (.getfield 12, 3) := by decide +kernel
theorem dX0_keepLimit_31 : decode cX0_keepLimit 31 = .ok (.getfield 64, 3) := by decide +kernel
theorem dX0_keepLimit_34 : decode cX0_keepLimit 34 = .ok (.iconst 2, 1) := by decide +kernel
theorem dX0_keepLimit_35 : decode cX0_keepLimit 35 = .ok (.iaload, 1) := by decide +kernel
theorem dX0_keepLimit_36 : decode cX0_keepLimit 36 = .ok (.invokevirtual 91, 3) := by decide +kernel
theorem dX0_keepLimit_39 : decode cX0_keepLimit 39 = .ok (.iconst 2, 1) := by decide +kernel
theorem dX0_keepLimit_40 : decode cX0_keepLimit 40 = .ok (.invokevirtual 79, 3) := by decide +kernel
theorem dX0_keepLimit_43 : decode cX0_keepLimit 43 = .ok (.iinc 2 1, 3) := by decide +kernel
theorem dX0_keepLimit_46 : decode cX0_keepLimit 46 = .ok (.goto (-26), 3) := by decide +kernel
theorem dX0_keepLimit_49 : decode cX0_keepLimit 49 = .ok (.return_, 1) := by decide +kernel
theorem dX0_payUntilPaid_0 : decode cX0_payUntilPaid 0 = .ok (.iconst 0, 1) := by decide +kernel
theorem dX0_payUntilPaid_1 : decode cX0_payUntilPaid 1 = .ok (.istore_n 2, 1) := by decide +kernel
theorem dX0_payUntilPaid_2 : decode cX0_payUntilPaid 2 = .ok (.iload_n 2, 1) := by decide +kernel
theorem dX0_payUntilPaid_3 : decode cX0_payUntilPaid 3 = .ok (.bipush 96, 2) := by decide +kernel
theorem dX0_payUntilPaid_5 : decode cX0_payUntilPaid 5 = .ok (.if_icmp .ge 38, 3) := by decide +kernel
theorem dX0_payUntilPaid_8 : decode cX0_payUntilPaid 8 = .ok (.aload_n 0, 1) := by decide +kernel
theorem dX0_payUntilPaid_9 : decode cX0_payUntilPaid 9 = .ok (.getfield 12, 3) := by decide +kernel
theorem dX0_payUntilPaid_12 : decode cX0_payUntilPaid 12 = .ok (.iload_n 1, 1) := by decide +kernel
theorem dX0_payUntilPaid_13 : decode cX0_payUntilPaid 13 = .ok (.invokevirtual 103, 3) := by decide +kernel
theorem dX0_payUntilPaid_16 : decode cX0_payUntilPaid 16 = .ok (.ifCond .eq 27, 3) := by decide +kernel
theorem dX0_payUntilPaid_19 : decode cX0_payUntilPaid 19 = .ok (.aload_n 0, 1) := by decide +kernel
theorem dX0_payUntilPaid_20 : decode cX0_payUntilPaid 20 = .ok (.aload_n 0, 1) := by decide +kernel
theorem dX0_payUntilPaid_21 : decode cX0_payUntilPaid 21 = .ok (.aload_n 0, 1) := by decide +kernel
theorem dX0_payUntilPaid_22 : decode cX0_payUntilPaid 22 = .ok (.getfield 12, 3) := by decide +kernel
theorem dX0_payUntilPaid_25 : decode cX0_payUntilPaid 25 = .ok (.getfield 64, 3) := by decide +kernel
theorem dX0_payUntilPaid_28 : decode cX0_payUntilPaid 28 = .ok (.iconst 2, 1) := by decide +kernel
theorem dX0_payUntilPaid_29 : decode cX0_payUntilPaid 29 = .ok (.iaload, 1) := by decide +kernel
theorem dX0_payUntilPaid_30 : decode cX0_payUntilPaid 30 = .ok (.invokevirtual 91, 3) := by decide +kernel
theorem dX0_payUntilPaid_33 : decode cX0_payUntilPaid 33 = .ok (.iconst 1, 1) := by decide +kernel
theorem dX0_payUntilPaid_34 : decode cX0_payUntilPaid 34 = .ok (.invokevirtual 79, 3) := by decide +kernel
theorem dX0_payUntilPaid_37 : decode cX0_payUntilPaid 37 = .ok (.iinc 2 1, 3) := by decide +kernel
theorem dX0_payUntilPaid_40 : decode cX0_payUntilPaid 40 = .ok (.goto (-38), 3) := by decide +kernel
theorem dX0_payUntilPaid_43 : decode cX0_payUntilPaid 43 = .ok (.iload_n 2, 1) := by decide +kernel
theorem dX0_payUntilPaid_44 : decode cX0_payUntilPaid 44 = .ok (.ireturn, 1) := by decide +kernel
theorem dX0_ticksFor_0 : decode cX0_ticksFor 0 = .ok (.aload_n 0, 1) := by decide +kernel
theorem dX0_ticksFor_1 : decode cX0_ticksFor 1 = .ok (.getfield 12, 3) := by decide +kernel
theorem dX0_ticksFor_4 : decode cX0_ticksFor 4 = .ok (.getfield 64, 3) := by decide +kernel
theorem dX0_ticksFor_7 : decode cX0_ticksFor 7 = .ok (.iconst 0, 1) := by decide +kernel
theorem dX0_ticksFor_8 : decode cX0_ticksFor 8 = .ok (.iaload, 1) := by decide +kernel
theorem dX0_ticksFor_9 : decode cX0_ticksFor 9 = .ok (.istore_n 2, 1) := by decide +kernel
theorem dX0_ticksFor_10 : decode cX0_ticksFor 10 = .ok (.iload_n 2, 1) := by decide +kernel
theorem dX0_ticksFor_11 : decode cX0_ticksFor 11 = .ok (.iconst 1, 1) := by decide +kernel
theorem dX0_ticksFor_12 : decode cX0_ticksFor 12 = .ok (.if_icmp .ge 7, 3) := by decide +kernel
theorem dX0_ticksFor_15 : decode cX0_ticksFor 15 = .ok (.iconst 0, 1) := by decide +kernel
theorem dX0_ticksFor_16 : decode cX0_ticksFor 16 = .ok (.goto 10, 3) := by decide +kernel
theorem dX0_ticksFor_19 : decode cX0_ticksFor 19 = .ok (.iload_n 1, 1) := by decide +kernel
theorem dX0_ticksFor_20 : decode cX0_ticksFor 20 = .ok (.iload_n 2, 1) := by decide +kernel
theorem dX0_ticksFor_21 : decode cX0_ticksFor 21 = .ok (.iadd, 1) := by decide +kernel
theorem dX0_ticksFor_22 : decode cX0_ticksFor 22 = .ok (.iconst 1, 1) := by decide +kernel
theorem dX0_ticksFor_23 : decode cX0_ticksFor 23 = .ok (.isub, 1) := by decide +kernel
theorem dX0_ticksFor_24 : decode cX0_ticksFor 24 = .ok (.iload_n 2, 1) := by decide +kernel
theorem dX0_ticksFor_25 : decode cX0_ticksFor 25 = .ok (.idiv, 1) := by decide +kernel
theorem dX0_ticksFor_26 : decode cX0_ticksFor 26 = .ok (.ireturn, 1) := by decide +kernel
theorem dX0_touchRow_0 : decode cX0_touchRow 0 = .ok (.iconst 0, 1) := by decide +kernel
theorem dX0_touchRow_1 : decode cX0_touchRow 1 = .ok (.istore_n 3, 1) := by decide +kernel
theorem dX0_touchRow_2 : decode cX0_touchRow 2 = .ok (.iload_n 3, 1) := by decide +kernel
theorem dX0_touchRow_3 : decode cX0_touchRow 3 = .ok (.bipush 96, 2) := by decide +kernel
theorem dX0_touchRow_5 : decode cX0_touchRow 5 = .ok (.if_icmp .ge 30, 3) := by decide +kernel
theorem dX0_touchRow_8 : decode cX0_touchRow 8 = .ok (.aload_n 0, 1) := by decide +kernel
theorem dX0_touchRow_9 : decode cX0_touchRow 9 = .ok (.getfield 18, 3) := by decide +kernel
theorem dX0_touchRow_12 : decode cX0_touchRow 12 = .ok (.iload_n 3, 1) := by decide +kernel
theorem dX0_touchRow_13 : decode cX0_touchRow 13 = .ok (.iload_n 3, 1) := by decide +kernel
theorem dX0_touchRow_14 : decode cX0_touchRow 14 = .ok (.iload_n 1, 1) := by decide +kernel
theorem dX0_touchRow_15 : decode cX0_touchRow 15 = .ok (.if_icmp .lt 12, 3) := by decide +kernel
theorem dX0_touchRow_18 : decode cX0_touchRow 18 = .ok (.iload_n 3, 1) := by decide +kernel
theorem dX0_touchRow_19 : decode cX0_touchRow 19 = .ok (.iload_n 2, 1) := by decide +kernel
theorem dX0_touchRow_20 : decode cX0_touchRow 20 = .ok (.if_icmp .gt 7, 3) := by decide +kernel
theorem dX0_touchRow_23 : decode cX0_touchRow 23 = .ok (.iconst 1, 1) := by decide +kernel
theorem dX0_touchRow_24 : decode cX0_touchRow 24 = .ok (.goto 4, 3) := by decide +kernel
theorem dX0_touchRow_27 : decode cX0_touchRow 27 = .ok (.iconst 0, 1) := by decide +kernel
theorem dX0_touchRow_28 : decode cX0_touchRow 28 = .ok (.bastore, 1) := by decide +kernel
theorem dX0_touchRow_29 : decode cX0_touchRow 29 = .ok (.iinc 3 1, 3) := by decide +kernel
theorem dX0_touchRow_32 : decode cX0_touchRow 32 = .ok (.goto (-30), 3) := by decide +kernel
theorem dX0_touchRow_35 : decode cX0_touchRow 35 = .ok (.return_, 1) := by decide +kernel
theorem dX0_payDependents_0 : decode cX0_payDependents 0 = .ok (.iconst 0, 1) := by decide +kernel
theorem dX0_payDependents_1 : decode cX0_payDependents 1 = .ok (.istore_n 1, 1) := by decide +kernel
theorem dX0_payDependents_2 : decode cX0_payDependents 2 = .ok (.iconst 0, 1) := by decide +kernel
theorem dX0_payDependents_3 : decode cX0_payDependents 3 = .ok (.istore_n 2, 1) := by decide +kernel
theorem dX0_payDependents_4 : decode cX0_payDependents 4 = .ok (.iload_n 2, 1) := by decide +kernel
theorem dX0_payDependents_5 : decode cX0_payDependents 5 = .ok (.aload_n 0, 1) := by decide +kernel
theorem dX0_payDependents_6 : decode cX0_payDependents 6 = .ok (.getfield 12, 3) := by decide +kernel
theorem dX0_payDependents_9 : decode cX0_payDependents 9 = .ok (.getfield 107, 3) := by decide +kernel
theorem dX0_payDependents_12 : decode cX0_payDependents 12 = .ok (.if_icmp .ge 55, 3) := by decide +kernel
theorem dX0_payDependents_15 : decode cX0_payDependents 15 = .ok (.aload_n 0, 1) := by decide +kernel
theorem dX0_payDependents_16 : decode cX0_payDependents 16 = .ok (.getfield 18, 3) := by decide +kernel
theorem dX0_payDependents_19 : decode cX0_payDependents 19 = .ok (.iload_n 2, 1) := by decide +kernel
theorem dX0_payDependents_20 : decode cX0_payDependents 20 = .ok (.baload, 1) := by decide +kernel
theorem dX0_payDependents_21 : decode cX0_payDependents 21 = .ok (.ifCond .ne 40, 3) := by decide +kernel
theorem dX0_payDependents_24 : decode cX0_payDependents 24 = .ok (.aload_n 0, 1) := by decide +kernel
theorem dX0_payDependents_25 : decode cX0_payDependents 25 = .ok (.getfield 12, 3) := by decide +kernel
theorem dX0_payDependents_28 : decode cX0_payDependents 28 = .ok (.iload_n 2, 1) := by decide +kernel
theorem dX0_payDependents_29 : decode cX0_payDependents 29 = .ok (.invokevirtual 103, 3) := by decide +kernel
theorem dX0_payDependents_32 : decode cX0_payDependents 32 = .ok (.ifCond .eq 29, 3) := by decide +kernel
theorem dX0_payDependents_35 : decode cX0_payDependents 35 = .ok (.aload_n 0, 1) := by decide +kernel
theorem dX0_payDependents_36 : decode cX0_payDependents 36 = .ok (.getfield 18, 3) := by decide +kernel
theorem dX0_payDependents_39 : decode cX0_payDependents 39 = .ok (.aload_n 0, 1) := by decide +kernel
theorem dX0_payDependents_40 : decode cX0_payDependents 40 = .ok (.getfield 12, 3) := by decide +kernel
theorem dX0_payDependents_43 : decode cX0_payDependents 43 = .ok (.getfield 67, 3) := by decide +kernel
theorem dX0_payDependents_46 : decode cX0_payDependents 46 = .ok (.iload_n 2, 1) := by decide +kernel
theorem dX0_payDependents_47 : decode cX0_payDependents 47 = .ok (.iaload, 1) := by decide +kernel
theorem dX0_payDependents_48 : decode cX0_payDependents 48 = .ok (.baload, 1) := by decide +kernel
theorem dX0_payDependents_49 : decode cX0_payDependents 49 = .ok (.ifCond .eq 12, 3) := by decide +kernel
theorem dX0_payDependents_52 : decode cX0_payDependents 52 = .ok (.aload_n 0, 1) := by decide +kernel
theorem dX0_payDependents_53 : decode cX0_payDependents 53 = .ok (.iload_n 2, 1) := by decide +kernel
theorem dX0_payDependents_54 : decode cX0_payDependents 54 = .ok (.iconst 2, 1) := by decide +kernel
theorem dX0_payDependents_55 : decode cX0_payDependents 55 = .ok (.invokevirtual 79, 3) := by decide +kernel
theorem dX0_payDependents_58 : decode cX0_payDependents 58 = .ok (.iinc 1 1, 3) := by decide +kernel
theorem dX0_payDependents_61 : decode cX0_payDependents 61 = .ok (.iinc 2 1, 3) := by decide +kernel
theorem dX0_payDependents_64 : decode cX0_payDependents 64 = .ok (.goto (-60), 3) := by decide +kernel
theorem dX0_payDependents_67 : decode cX0_payDependents 67 = .ok (.iload_n 1, 1) := by decide +kernel
theorem dX0_payDependents_68 : decode cX0_payDependents 68 = .ok (.ireturn, 1) := by decide +kernel
theorem dX0_dropTouched_0 : decode cX0_dropTouched 0 = .ok (.iconst 0, 1) := by decide +kernel
theorem dX0_dropTouched_1 : decode cX0_dropTouched 1 = .ok (.istore_n 1, 1) := by decide +kernel
theorem dX0_dropTouched_2 : decode cX0_dropTouched 2 = .ok (.iload_n 1, 1) := by decide +kernel
theorem dX0_dropTouched_3 : decode cX0_dropTouched 3 = .ok (.aload_n 0, 1) := by decide +kernel
theorem dX0_dropTouched_4 : decode cX0_dropTouched 4 = .ok (.getfield 12, 3) := by decide +kernel
theorem dX0_dropTouched_7 : decode cX0_dropTouched 7 = .ok (.getfield 107, 3) := by decide +kernel
theorem dX0_dropTouched_10 : decode cX0_dropTouched 10 = .ok (.if_icmp .ge 68, 3) := by decide +kernel
theorem dX0_dropTouched_13 : decode cX0_dropTouched 13 = .ok (.aload_n 0, 1) := by decide +kernel
theorem dX0_dropTouched_14 : decode cX0_dropTouched 14 = .ok (.getfield 18, 3) := by decide +kernel
theorem dX0_dropTouched_17 : decode cX0_dropTouched 17 = .ok (.iload_n 1, 1) := by decide +kernel
theorem dX0_dropTouched_18 : decode cX0_dropTouched 18 = .ok (.baload, 1) := by decide +kernel
theorem dX0_dropTouched_19 : decode cX0_dropTouched 19 = .ok (.ifCond .eq 53, 3) := by decide +kernel
theorem dX0_dropTouched_22 : decode cX0_dropTouched 22 = .ok (.aload_n 0, 1) := by decide +kernel
theorem dX0_dropTouched_23 : decode cX0_dropTouched 23 = .ok (.getfield 12, 3) := by decide +kernel
theorem dX0_dropTouched_26 : decode cX0_dropTouched 26 = .ok (.iload_n 1, 1) := by decide +kernel
theorem dX0_dropTouched_27 : decode cX0_dropTouched 27 = .ok (.invokevirtual 103, 3) := by decide +kernel
theorem dX0_dropTouched_30 : decode cX0_dropTouched 30 = .ok (.ifCond .eq 42, 3) := by decide +kernel
theorem dX0_dropTouched_33 : decode cX0_dropTouched 33 = .ok (.aload_n 0, 1) := by decide +kernel
theorem dX0_dropTouched_34 : decode cX0_dropTouched 34 = .ok (.getfield 12, 3) := by decide +kernel
theorem dX0_dropTouched_37 : decode cX0_dropTouched 37 = .ok (.getfield 29, 3) := by decide +kernel
theorem dX0_dropTouched_40 : decode cX0_dropTouched 40 = .ok (.iconst 5, 1) := by decide +kernel
theorem dX0_dropTouched_41 : decode cX0_dropTouched 41 = .ok (.dup2, 1) := by decide +kernel
theorem dX0_dropTouched_42 : decode cX0_dropTouched 42 = .ok (.iaload, 1) := by decide +kernel
theorem dX0_dropTouched_43 : decode cX0_dropTouched 43 = .ok (.iconst 1, 1) := by decide +kernel
theorem dX0_dropTouched_44 : decode cX0_dropTouched 44 = .ok (.iadd, 1) := by decide +kernel
theorem dX0_dropTouched_45 : decode cX0_dropTouched 45 = .ok (.iastore, 1) := by decide +kernel
theorem dX0_dropTouched_46 : decode cX0_dropTouched 46 = .ok (.aload_n 0, 1) := by decide +kernel
theorem dX0_dropTouched_47 : decode cX0_dropTouched 47 = .ok (.getfield 12, 3) := by decide +kernel
theorem dX0_dropTouched_50 : decode cX0_dropTouched 50 = .ok (.iconst 4, 1) := by decide +kernel
theorem dX0_dropTouched_51 : decode cX0_dropTouched 51 = .ok (.iload_n 1, 1) := by decide +kernel
theorem dX0_dropTouched_52 : decode cX0_dropTouched 52 = .ok (.aload_n 0, 1) := by decide +kernel
theorem dX0_dropTouched_53 : decode cX0_dropTouched 53 = .ok (.getfield 12, 3) := by decide +kernel
theorem dX0_dropTouched_56 : decode cX0_dropTouched 56 = .ok (.getfield 73, 3) := by decide +kernel
theorem dX0_dropTouched_59 : decode cX0_dropTouched 59 = .ok (.iload_n 1, 1) := by decide +kernel
theorem dX0_dropTouched_60 : decode cX0_dropTouched 60 = .ok (.iaload, 1) := by decide +kernel
theorem dX0_dropTouched_61 : decode cX0_dropTouched 61 = .ok (.invokevirtual 32, 3) := by decide +kernel
theorem dX0_dropTouched_64 : decode cX0_dropTouched 64 = .ok (.aload_n 0, 1) := by decide +kernel
theorem dX0_dropTouched_65 : decode cX0_dropTouched 65 = .ok (.getfield 12, 3) := by decide +kernel
theorem dX0_dropTouched_68 : decode cX0_dropTouched 68 = .ok (.iload_n 1, 1) := by decide +kernel
theorem dX0_dropTouched_69 : decode cX0_dropTouched 69 = .ok (.invokevirtual 111, 3) := by decide +kernel
theorem dX0_dropTouched_72 : decode cX0_dropTouched 72 = .ok (.iinc 1 1, 3) := by decide +kernel
theorem dX0_dropTouched_75 : decode cX0_dropTouched 75 = .ok (.goto (-73), 3) := by decide +kernel
theorem dX0_dropTouched_78 : decode cX0_dropTouched 78 = .ok (.return_, 1) := by decide +kernel
theorem dX0_pay_0 : decode cX0_pay 0 = .ok (.aload_n 0, 1) := by decide +kernel
theorem dX0_pay_1 : decode cX0_pay 1 = .ok (.getfield 12, 3) := by decide +kernel
theorem dX0_pay_4 : decode cX0_pay 4 = .ok (.iload_n 1, 1) := by decide +kernel
theorem dX0_pay_5 : decode cX0_pay 5 = .ok (.invokevirtual 103, 3) := by decide +kernel
theorem dX0_pay_8 : decode cX0_pay 8 = .ok (.ifCond .eq 62, 3) := by decide +kernel
theorem dX0_pay_11 : decode cX0_pay 11 = .ok (.aload_n 0, 1) := by decide +kernel
theorem dX0_pay_12 : decode cX0_pay 12 = .ok (.getfield 12, 3) := by decide +kernel
theorem dX0_pay_15 : decode cX0_pay 15 = .ok (.getfield 51, 3) := by decide +kernel
theorem dX0_pay_18 : decode cX0_pay 18 = .ok (.iload_n 1, 1) := by decide +kernel
theorem dX0_pay_19 : decode cX0_pay 19 = .ok (.aload_n 0, 1) := by decide +kernel
theorem dX0_pay_20 : decode cX0_pay 20 = .ok (.getfield 12, 3) := by decide +kernel
theorem dX0_pay_23 : decode cX0_pay 23 = .ok (.getfield 51, 3) := by decide +kernel
theorem dX0_pay_26 : decode cX0_pay 26 = .ok (.aload_n 0, 1) := by decide +kernel
theorem dX0_pay_27 : decode cX0_pay 27 = .ok (.getfield 12, 3) := by decide +kernel
theorem dX0_pay_30 : decode cX0_pay 30 = .ok (.iload_n 1, 1) := by decide +kernel
theorem dX0_pay_31 : decode cX0_pay 31 = .ok (.invokevirtual 70, 3) := by decide +kernel
theorem dX0_pay_34 : decode cX0_pay 34 = .ok (.iaload, 1) := by decide +kernel
theorem dX0_pay_35 : decode cX0_pay 35 = .ok (.iastore, 1) := by decide +kernel
theorem dX0_pay_36 : decode cX0_pay 36 = .ok (.aload_n 0, 1) := by decide +kernel
theorem dX0_pay_37 : decode cX0_pay 37 = .ok (.getfield 12, 3) := by decide +kernel
theorem dX0_pay_40 : decode cX0_pay 40 = .ok (.iload_n 1, 1) := by decide +kernel
theorem dX0_pay_41 : decode cX0_pay 41 = .ok (.invokevirtual 111, 3) := by decide +kernel
theorem dX0_pay_44 : decode cX0_pay 44 = .ok (.aload_n 0, 1) := by decide +kernel
theorem dX0_pay_45 : decode cX0_pay 45 = .ok (.getfield 12, 3) := by decide +kernel
theorem dX0_pay_48 : decode cX0_pay 48 = .ok (.iload_n 2, 1) := by decide +kernel
theorem dX0_pay_49 : decode cX0_pay 49 = .ok (.iload_n 1, 1) := by decide +kernel
theorem dX0_pay_50 : decode cX0_pay 50 = .ok (.aload_n 0, 1) := by decide +kernel
theorem dX0_pay_51 : decode cX0_pay 51 = .ok (.getfield 12, 3) := by decide +kernel
theorem dX0_pay_54 : decode cX0_pay 54 = .ok (.getfield 51, 3) := by decide +kernel
theorem dX0_pay_57 : decode cX0_pay 57 = .ok (.iload_n 1, 1) := by decide +kernel
theorem dX0_pay_58 : decode cX0_pay 58 = .ok (.iaload, 1) := by decide +kernel
theorem dX0_pay_59 : decode cX0_pay 59 = .ok (.invokevirtual 32, 3) := by decide +kernel
theorem dX0_pay_62 : decode cX0_pay 62 = .ok (.aload_n 0, 1) := by decide +kernel
theorem dX0_pay_63 : decode cX0_pay 63 = .ok (.getfield 12, 3) := by decide +kernel
theorem dX0_pay_66 : decode cX0_pay 66 = .ok (.iload_n 2, 1) := by decide +kernel
theorem dX0_pay_67 : decode cX0_pay 67 = .ok (.invokevirtual 54, 3) := by decide +kernel
theorem dX0_pay_70 : decode cX0_pay 70 = .ok (.return_, 1) := by decide +kernel
theorem dX0_placeFor_0 : decode cX0_placeFor 0 = .ok (.aload_n 0, 1) := by decide +kernel
theorem dX0_placeFor_1 : decode cX0_placeFor 1 = .ok (.invokevirtual 114, 3) := by decide +kernel
theorem dX0_placeFor_4 : decode cX0_placeFor 4 = .ok (.iconst (-1), 1) := by decide +kernel
theorem dX0_placeFor_5 : decode cX0_placeFor 5 = .ok (.istore_n 2, 1) := by decide +kernel
theorem dX0_placeFor_6 : decode cX0_placeFor 6 = .ok (.iconst 0, 1) := by decide +kernel
theorem dX0_placeFor_7 : decode cX0_placeFor 7 = .ok (.istore_n 3, 1) := by decide +kernel
theorem dX0_placeFor_8 : decode cX0_placeFor 8 = .ok (.iconst 0, 1) := by decide +kernel
theorem dX0_placeFor_9 : decode cX0_placeFor 9 = .ok (.istore 4, 2) := by decide +kernel
theorem dX0_placeFor_11 : decode cX0_placeFor 11 = .ok (.iload 4, 2) := by decide +kernel
theorem dX0_placeFor_13 : decode cX0_placeFor 13 = .ok (.aload_n 0, 1) := by decide +kernel
theorem dX0_placeFor_14 : decode cX0_placeFor 14 = .ok (.getfield 12, 3) := by decide +kernel
theorem dX0_placeFor_17 : decode cX0_placeFor 17 = .ok (.getfield 107, 3) := by decide +kernel
theorem dX0_placeFor_20 : decode cX0_placeFor 20 = .ok (.if_icmp .ge 47, 3) := by decide +kernel
theorem dX0_placeFor_23 : decode cX0_placeFor 23 = .ok (.aload_n 0, 1) := by decide +kernel
theorem dX0_placeFor_24 : decode cX0_placeFor 24 = .ok (.getfield 12, 3) := by decide +kernel
theorem dX0_placeFor_27 : decode cX0_placeFor 27 = .ok (.iload 4, 2) := by decide +kernel
theorem dX0_placeFor_29 : decode cX0_placeFor 29 = .ok (.invokevirtual 103, 3) := by decide +kernel
theorem dX0_placeFor_32 : decode cX0_placeFor 32 = .ok (.ifCond .eq 29, 3) := by decide +kernel
theorem dX0_placeFor_35 : decode cX0_placeFor 35 = .ok (.aload_n 0, 1) := by decide +kernel
theorem dX0_placeFor_36 : decode cX0_placeFor 36 = .ok (.iload 4, 2) := by decide +kernel
theorem dX0_placeFor_38 : decode cX0_placeFor 38 = .ok (.iload_n 1, 1) := by decide +kernel
theorem dX0_placeFor_39 : decode cX0_placeFor 39 = .ok (.invokevirtual 117, 3) := by decide +kernel
theorem dX0_placeFor_42 : decode cX0_placeFor 42 = .ok (.istore 5, 2) := by decide +kernel
theorem dX0_placeFor_44 : decode cX0_placeFor 44 = .ok (.iload_n 2, 1) := by decide +kernel
theorem dX0_placeFor_45 : decode cX0_placeFor 45 = .ok (.iconst (-1), 1) := by decide +kernel
theorem dX0_placeFor_46 : decode cX0_placeFor 46 = .ok (.if_icmp .eq 9, 3) := by decide +kernel
theorem dX0_placeFor_49 : decode cX0_placeFor 49 = .ok (.iload 5, 2) := by decide +kernel
theorem dX0_placeFor_51 : decode cX0_placeFor 51 = .ok (.iload_n 3, 1) := by decide +kernel
theorem dX0_placeFor_52 : decode cX0_placeFor 52 = .ok (.if_icmp .ge 9, 3) := by decide +kernel
theorem dX0_placeFor_55 : decode cX0_placeFor 55 = .ok (.iload 4, 2) := by decide +kernel
theorem dX0_placeFor_57 : decode cX0_placeFor 57 = .ok (.istore_n 2, 1) := by decide +kernel
theorem dX0_placeFor_58 : decode cX0_placeFor 58 = .ok (.iload 5, 2) := by decide +kernel
theorem dX0_placeFor_60 : decode cX0_placeFor 60 = .ok (.istore_n 3, 1) := by decide +kernel
theorem dX0_placeFor_61 : decode cX0_placeFor 61 = .ok (.iinc 4 1, 3) := by decide +kernel
theorem dX0_placeFor_64 : decode cX0_placeFor 64 = .ok (.goto (-53), 3) := by decide +kernel
theorem dX0_placeFor_67 : decode cX0_placeFor 67 = .ok (.iload_n 2, 1) := by decide +kernel
theorem dX0_placeFor_68 : decode cX0_placeFor 68 = .ok (.ireturn, 1) := by decide +kernel
theorem dX0_rankOf_0 : decode cX0_rankOf 0 = .ok (.iload_n 2, 1) := by decide +kernel
theorem dX0_rankOf_1 : decode cX0_rankOf 1 = .ok (.tableswitch 56 0 3 #[31, 56, 41, 49], 31) := by decide +kernel
theorem dX0_rankOf_32 : decode cX0_rankOf 32 = .ok (.aload_n 0, 1) := by decide +kernel
theorem dX0_rankOf_33 : decode cX0_rankOf 33 = .ok (.getfield 12, 3) := by decide +kernel
theorem dX0_rankOf_36 : decode cX0_rankOf 36 = .ok (.getfield 73, 3) := by decide +kernel
theorem dX0_rankOf_39 : decode cX0_rankOf 39 = .ok (.iload_n 1, 1) := by decide +kernel
theorem dX0_rankOf_40 : decode cX0_rankOf 40 = .ok (.iaload, 1) := by decide +kernel
theorem dX0_rankOf_41 : decode cX0_rankOf 41 = .ok (.ireturn, 1) := by decide +kernel
theorem dX0_rankOf_42 : decode cX0_rankOf 42 = .ok (.aload_n 0, 1) := by decide +kernel
theorem dX0_rankOf_43 : decode cX0_rankOf 43 = .ok (.getfield 26, 3) := by decide +kernel
theorem dX0_rankOf_46 : decode cX0_rankOf 46 = .ok (.iload_n 1, 1) := by decide +kernel
theorem dX0_rankOf_47 : decode cX0_rankOf 47 = .ok (.iaload, 1) := by decide +kernel
theorem dX0_rankOf_48 : decode cX0_rankOf 48 = .ok (.ineg, 1) := by decide +kernel
theorem dX0_rankOf_49 : decode cX0_rankOf 49 = .ok (.ireturn, 1) := by decide +kernel
theorem dX0_rankOf_50 : decode cX0_rankOf 50 = .ok (.aload_n 0, 1) := by decide +kernel
theorem dX0_rankOf_51 : decode cX0_rankOf 51 = .ok (.getfield 26, 3) := by decide +kernel
theorem dX0_rankOf_54 : decode cX0_rankOf 54 = .ok (.iload_n 1, 1) := by decide +kernel
theorem dX0_rankOf_55 : decode cX0_rankOf 55 = .ok (.iaload, 1) := by decide +kernel
theorem dX0_rankOf_56 : decode cX0_rankOf 56 = .ok (.ireturn, 1) := by decide +kernel
theorem dX0_rankOf_57 : decode cX0_rankOf 57 = .ok (.iconst 0, 1) := by decide +kernel
theorem dX0_rankOf_58 : decode cX0_rankOf 58 = .ok (.ireturn, 1) := by decide +kernel
theorem dX0_measureDepths_0 : decode cX0_measureDepths 0 = .ok (.iconst 0, 1) := by decide +kernel
theorem dX0_measureDepths_1 : decode cX0_measureDepths 1 = .ok (.istore_n 1, 1) := by decide +kernel
theorem dX0_measureDepths_2 : decode cX0_measureDepths 2 = .ok (.iload_n 1, 1) := by decide +kernel
theorem dX0_measureDepths_3 : decode cX0_measureDepths 3 = .ok (.aload_n 0, 1) := by decide +kernel
theorem dX0_measureDepths_4 : decode cX0_measureDepths 4 = .ok (.getfield 12, 3) := by decide +kernel
theorem dX0_measureDepths_7 : decode cX0_measureDepths 7 = .ok (.getfield 107, 3) := by decide +kernel
theorem dX0_measureDepths_10 : decode cX0_measureDepths 10 = .ok (.if_icmp .ge 33, 3) := by decide +kernel
theorem dX0_measureDepths_13 : decode cX0_measureDepths 13 = .ok (.aload_n 0, 1) := by decide +kernel
theorem dX0_measureDepths_14 : decode cX0_measureDepths 14 = .ok (.getfield 26, 3) := by decide +kernel
theorem dX0_measureDepths_17 : decode cX0_measureDepths 17 = .ok (.iload_n 1, 1) := by decide +kernel
theorem dX0_measureDepths_18 : decode cX0_measureDepths 18 = .ok (.aload_n 0, 1) := by decide +kernel
theorem dX0_measureDepths_19 : decode cX0_measureDepths 19 = .ok (.getfield 12, 3) := by decide +kernel
theorem dX0_measureDepths_22 : decode cX0_measureDepths 22 = .ok (.getfield 67, 3) := by decide +kernel
theorem dX0_measureDepths_25 : decode cX0_measureDepths 25 = .ok (.iload_n 1, 1) := by decide +kernel
theorem dX0_measureDepths_26 : decode cX0_measureDepths 26 = .ok (.iaload, 1) := by decide +kernel
theorem dX0_measureDepths_27 : decode cX0_measureDepths 27 = .ok (.iconst (-1), 1) := by decide +kernel
theorem dX0_measureDepths_28 : decode cX0_measureDepths 28 = .ok (.if_icmp .ne 7, 3) := by decide +kernel
theorem dX0_measureDepths_31 : decode cX0_measureDepths 31 = .ok (.iconst 0, 1) := by decide +kernel
theorem dX0_measureDepths_32 : decode cX0_measureDepths 32 = .ok (.goto 4, 3) := by decide +kernel
theorem dX0_measureDepths_35 : decode cX0_measureDepths 35 = .ok (.iconst (-1), 1) := by decide +kernel
theorem dX0_measureDepths_36 : decode cX0_measureDepths 36 = .ok (.iastore, 1) := by decide +kernel
theorem dX0_measureDepths_37 : decode cX0_measureDepths 37 = .ok (.iinc 1 1, 3) := by decide +kernel
theorem dX0_measureDepths_40 : decode cX0_measureDepths 40 = .ok (.goto (-38), 3) := by decide +kernel
theorem dX0_measureDepths_43 : decode cX0_measureDepths 43 = .ok (.iconst 0, 1) := by decide +kernel
theorem dX0_measureDepths_44 : decode cX0_measureDepths 44 = .ok (.istore_n 1, 1) := by decide +kernel
theorem dX0_measureDepths_45 : decode cX0_measureDepths 45 = .ok (.iload_n 1, 1) := by decide +kernel
theorem dX0_measureDepths_46 : decode cX0_measureDepths 46 = .ok (.aload_n 0, 1) := by decide +kernel
theorem dX0_measureDepths_47 : decode cX0_measureDepths 47 = .ok (.getfield 12, 3) := by decide +kernel
theorem dX0_measureDepths_50 : decode cX0_measureDepths 50 = .ok (.getfield 107, 3) := by decide +kernel
theorem dX0_measureDepths_53 : decode cX0_measureDepths 53 = .ok (.if_icmp .ge 93, 3) := by decide +kernel
theorem dX0_measureDepths_56 : decode cX0_measureDepths 56 = .ok (.iconst 0, 1) := by decide +kernel
theorem dX0_measureDepths_57 : decode cX0_measureDepths 57 = .ok (.istore_n 2, 1) := by decide +kernel
theorem dX0_measureDepths_58 : decode cX0_measureDepths 58 = .ok (.iload_n 1, 1) := by decide +kernel
theorem dX0_measureDepths_59 : decode cX0_measureDepths 59 = .ok (.istore_n 3, 1) := by decide +kernel
theorem dX0_measureDepths_60 : decode cX0_measureDepths 60 = .ok (.iload_n 2, 1) := by decide +kernel
theorem dX0_measureDepths_61 : decode cX0_measureDepths 61 = .ok (.bipush 96, 2) := by decide +kernel
theorem dX0_measureDepths_63 : decode cX0_measureDepths 63 = .ok (.if_icmp .ge 29, 3) := by decide +kernel
theorem dX0_measureDepths_66 : decode cX0_measureDepths 66 = .ok (.aload_n 0, 1) := by decide +kernel
theorem dX0_measureDepths_67 : decode cX0_measureDepths 67 = .ok (.getfield 26, 3) := by decide +kernel
theorem dX0_measureDepths_70 : decode cX0_measureDepths 70 = .ok (.iload_n 3, 1) := by decide +kernel
theorem dX0_measureDepths_71 : decode cX0_measureDepths 71 = .ok (.iaload, 1) := by decide +kernel
theorem dX0_measureDepths_72 : decode cX0_measureDepths 72 = .ok (.iconst (-1), 1) := by decide +kernel
theorem dX0_measureDepths_73 : decode cX0_measureDepths 73 = .ok (.if_icmp .ne 19, 3) := by decide +kernel
theorem dX0_measureDepths_76 : decode cX0_measureDepths 76 = .ok (.aload_n 0, 1) := by decide +kernel
theorem dX0_measureDepths_77 : decode cX0_measureDepths 77 = .ok (.getfield 12, 3) := by decide +kernel
theorem dX0_measureDepths_80 : decode cX0_measureDepths 80 = .ok (.getfield 67, 3) := by decide +kernel
theorem dX0_measureDepths_83 : decode cX0_measureDepths 83 = .ok (.iload_n 3, 1) := by decide +kernel
theorem dX0_measureDepths_84 : decode cX0_measureDepths 84 = .ok (.iaload, 1) := by decide +kernel
theorem dX0_measureDepths_85 : decode cX0_measureDepths 85 = .ok (.istore_n 3, 1) := by decide +kernel
theorem dX0_measureDepths_86 : decode cX0_measureDepths 86 = .ok (.iinc 2 1, 3) := by decide +kernel
theorem dX0_measureDepths_89 : decode cX0_measureDepths 89 = .ok (.goto (-29), 3) := by decide +kernel
theorem dX0_measureDepths_92 : decode cX0_measureDepths 92 = .ok (.aload_n 0, 1) := by decide +kernel
theorem dX0_measureDepths_93 : decode cX0_measureDepths 93 = .ok (.getfield 26, 3) := by decide +kernel
theorem dX0_measureDepths_96 : decode cX0_measureDepths 96 = .ok (.iload_n 3, 1) := by decide +kernel
theorem dX0_measureDepths_97 : decode cX0_measureDepths 97 = .ok (.iaload, 1) := by decide +kernel
theorem dX0_measureDepths_98 : decode cX0_measureDepths 98 = .ok (.iload_n 2, 1) := by decide +kernel
theorem dX0_measureDepths_99 : decode cX0_measureDepths 99 = .ok (.iadd, 1) := by decide +kernel
theorem dX0_measureDepths_100 : decode cX0_measureDepths 100 = .ok (.istore 4, 2) := by decide +kernel
theorem dX0_measureDepths_102 : decode cX0_measureDepths 102 = .ok (.iload_n 1, 1) := by decide +kernel
theorem dX0_measureDepths_103 : decode cX0_measureDepths 103 = .ok (.istore_n 3, 1) := by decide +kernel
theorem dX0_measureDepths_104 : decode cX0_measureDepths 104 = .ok (.iconst 0, 1) := by decide +kernel
theorem dX0_measureDepths_105 : decode cX0_measureDepths 105 = .ok (.istore 5, 2) := by decide +kernel
theorem dX0_measureDepths_107 : decode cX0_measureDepths 107 = .ok (.iload 5, 2) := by decide +kernel
theorem dX0_measureDepths_109 : decode cX0_measureDepths 109 = .ok (.iload_n 2, 1) := by decide +kernel
theorem dX0_measureDepths_110 : decode cX0_measureDepths 110 = .ok (.if_icmp .ge 30, 3) := by decide +kernel
theorem dX0_measureDepths_113 : decode cX0_measureDepths 113 = .ok (.aload_n 0, 1) := by decide +kernel
theorem dX0_measureDepths_114 : decode cX0_measureDepths 114 = .ok (.getfield 26, 3) := by decide +kernel
theorem dX0_measureDepths_117 : decode cX0_measureDepths 117 = .ok (.iload_n 3, 1) := by decide +kernel
theorem dX0_measureDepths_118 : decode cX0_measureDepths 118 = .ok (.iload 4, 2) := by decide +kernel
theorem dX0_measureDepths_120 : decode cX0_measureDepths 120 = .ok (.iload 5, 2) := by decide +kernel
theorem dX0_measureDepths_122 : decode cX0_measureDepths 122 = .ok (.isub, 1) := by decide +kernel
theorem dX0_measureDepths_123 : decode cX0_measureDepths 123 = .ok (.iastore, 1) := by decide +kernel
theorem dX0_measureDepths_124 : decode cX0_measureDepths 124 = .ok (.aload_n 0, 1) := by decide +kernel
theorem dX0_measureDepths_125 : decode cX0_measureDepths 125 = .ok (.getfield 12, 3) := by decide +kernel
theorem dX0_measureDepths_128 : decode cX0_measureDepths 128 = .ok (.getfield 67, 3) := by decide +kernel
theorem dX0_measureDepths_131 : decode cX0_measureDepths 131 = .ok (.iload_n 3, 1) := by decide +kernel
theorem dX0_measureDepths_132 : decode cX0_measureDepths 132 = .ok (.iaload, 1) := by decide +kernel
theorem dX0_measureDepths_133 : decode cX0_measureDepths 133 = .ok (.istore_n 3, 1) := by decide +kernel
theorem dX0_measureDepths_134 : decode cX0_measureDepths 134 = .ok (.iinc 5 1, 3) := by decide +kernel
theorem dX0_measureDepths_137 : decode cX0_measureDepths 137 = .ok (.goto (-30), 3) := by decide +kernel
theorem dX0_measureDepths_140 : decode cX0_measureDepths 140 = .ok (.iinc 1 1, 3) := by decide +kernel
theorem dX0_measureDepths_143 : decode cX0_measureDepths 143 = .ok (.goto (-98), 3) := by decide +kernel
theorem dX0_measureDepths_146 : decode cX0_measureDepths 146 = .ok (.return_, 1) := by decide +kernel
theorem dX1_init_0 : decode cX1_init 0 = .ok (.aload_n 0, 1) := by decide +kernel
theorem dX1_init_1 : decode cX1_init 1 = .ok (.invokespecial 3, 3) := by decide +kernel
theorem dX1_init_4 : decode cX1_init 4 = .ok (.aload_n 0, 1) := by decide +kernel
theorem dX1_init_5 : decode cX1_init 5 = .ok (.bipush 8, 2) := by decide +kernel
theorem dX1_init_7 : decode cX1_init 7 = .ok (.anewarray 9, 3) := by decide +kernel
theorem dX1_init_10 : decode cX1_init 10 = .ok (.putfield 11, 3) := by decide +kernel
theorem dX1_init_13 : decode cX1_init 13 = .ok (.iconst 0, 1) := by decide +kernel
theorem dX1_init_14 : decode cX1_init 14 = .ok (.istore_n 1, 1) := by decide +kernel
theorem dX1_init_15 : decode cX1_init 15 = .ok (.iload_n 1, 1) := by decide +kernel
theorem dX1_init_16 : decode cX1_init 16 = .ok (.bipush 8, 2) := by decide +kernel
theorem dX1_init_18 : decode cX1_init 18 = .ok (.if_icmp .ge 22, 3) := by decide +kernel
theorem dX1_init_21 : decode cX1_init 21 = .ok (.aload_n 0, 1) := by decide +kernel
theorem dX1_init_22 : decode cX1_init 22 = .ok (.getfield 11, 3) := by decide +kernel
theorem dX1_init_25 : decode cX1_init 25 = .ok (.iload_n 1, 1) := by decide +kernel
theorem dX1_init_26 : decode cX1_init 26 = .ok (.new 9, 3) := by decide +kernel
theorem dX1_init_29 : decode cX1_init 29 = .ok (.dup, 1) := by decide +kernel
theorem dX1_init_30 : decode cX1_init 30 = .ok (.invokespecial 17, 3) := by decide +kernel
theorem dX1_init_33 : decode cX1_init 33 = .ok (.aastore, 1) := by decide +kernel
theorem dX1_init_34 : decode cX1_init 34 = .ok (.iinc 1 1, 3) := by decide +kernel
theorem dX1_init_37 : decode cX1_init 37 = .ok (.goto (-22), 3) := by decide +kernel
theorem dX1_init_40 : decode cX1_init 40 = .ok (.return_, 1) := by decide +kernel
theorem dX1_forget_0 : decode cX1_forget 0 = .ok (.aload_n 0, 1) := by decide +kernel
theorem dX1_forget_1 : decode cX1_forget 1 = .ok (.iconst 0, 1) := by decide +kernel
theorem dX1_forget_2 : decode cX1_forget 2 = .ok (.putfield 18, 3) := by decide +kernel
theorem dX1_forget_5 : decode cX1_forget 5 = .ok (.return_, 1) := by decide +kernel
theorem dX1_remember_0 : decode cX1_remember 0 = .ok (.aload_n 0, 1) := by decide +kernel
theorem dX1_remember_1 : decode cX1_remember 1 = .ok (.getfield 11, 3) := by decide +kernel
theorem dX1_remember_4 : decode cX1_remember 4 = .ok (.aload_n 0, 1) := by decide +kernel
theorem dX1_remember_5 : decode cX1_remember 5 = .ok (.getfield 22, 3) := by decide +kernel
theorem dX1_remember_8 : decode cX1_remember 8 = .ok (.aaload, 1) := by decide +kernel
theorem dX1_remember_9 : decode cX1_remember 9 = .ok (.aload_n 1, 1) := by decide +kernel
theorem dX1_remember_10 : decode cX1_remember 10 = .ok (.invokevirtual 25, 3) := by decide +kernel
theorem dX1_remember_13 : decode cX1_remember 13 = .ok (.aload_n 0, 1) := by decide +kernel
theorem dX1_remember_14 : decode cX1_remember 14 = .ok (.aload_n 0, 1) := by decide +kernel
theorem dX1_remember_15 : decode cX1_remember 15 = .ok (.getfield 22, 3) := by decide +kernel
theorem dX1_remember_18 : decode cX1_remember 18 = .ok (.iconst 1, 1) := by decide +kernel
theorem dX1_remember_19 : decode cX1_remember 19 = .ok (.iadd, 1) := by decide +kernel
theorem dX1_remember_20 : decode cX1_remember 20 = .ok (.bipush 8, 2) := by decide +kernel
theorem dX1_remember_22 : decode cX1_remember 22 = .ok (.if_icmp .ge 12, 3) := by decide +kernel
theorem dX1_remember_25 : decode cX1_remember 25 = .ok (.aload_n 0, 1) := by decide +kernel
theorem dX1_remember_26 : decode cX1_remember 26 = .ok (.getfield 22, 3) := by decide +kernel
theorem dX1_remember_29 : decode cX1_remember 29 = .ok (.iconst 1, 1) := by decide +kernel
theorem dX1_remember_30 : decode cX1_remember 30 = .ok (.iadd, 1) := by decide +kernel
theorem dX1_remember_31 : decode cX1_remember 31 = .ok (.goto 4, 3) := by decide +kernel
theorem dX1_remember_34 : decode cX1_remember 34 = .ok (.iconst 0, 1) := by decide +kernel
theorem dX1_remember_35 : decode cX1_remember 35 = .ok (.putfield 22, 3) := by decide +kernel
theorem dX1_remember_38 : decode cX1_remember 38 = .ok (.aload_n 0, 1) := by decide +kernel
theorem dX1_remember_39 : decode cX1_remember 39 = .ok (.aload_n 0, 1) := by decide +kernel
theorem dX1_remember_40 : decode cX1_remember 40 = .ok (.getfield 18, 3) := by decide +kernel
theorem dX1_remember_43 : decode cX1_remember 43 = .ok (.iconst 1, 1) := by decide +kernel
theorem dX1_remember_44 : decode cX1_remember 44 = .ok (.iadd, 1) := by decide +kernel
theorem dX1_remember_45 : decode cX1_remember 45 = .ok (.bipush 8, 2) := by decide +kernel
theorem dX1_remember_47 : decode cX1_remember 47 = .ok (.invokestatic 29, 3) := by decide +kernel
theorem dX1_remember_50 : decode cX1_remember 50 = .ok (.putfield 18, 3) := by decide +kernel
theorem dX1_remember_53 : decode cX1_remember 53 = .ok (.return_, 1) := by decide +kernel
theorem dX1_goBack_0 : decode cX1_goBack 0 = .ok (.aload_n 0, 1) := by decide +kernel
theorem dX1_goBack_1 : decode cX1_goBack 1 = .ok (.aload_n 0, 1) := by decide +kernel
theorem dX1_goBack_2 : decode cX1_goBack 2 = .ok (.getfield 22, 3) := by decide +kernel
theorem dX1_goBack_5 : decode cX1_goBack 5 = .ok (.ifCond .le 12, 3) := by decide +kernel
theorem dX1_goBack_8 : decode cX1_goBack 8 = .ok (.aload_n 0, 1) := by decide +kernel
theorem dX1_goBack_9 : decode cX1_goBack 9 = .ok (.getfield 22, 3) := by decide +kernel
theorem dX1_goBack_12 : decode cX1_goBack 12 = .ok (.iconst 1, 1) := by decide +kernel
theorem dX1_goBack_13 : decode cX1_goBack 13 = .ok (.isub, 1) := by decide +kernel
theorem dX1_goBack_14 : decode cX1_goBack 14 = .ok (.goto 5, 3) := by decide +kernel
theorem dX1_goBack_17 : decode cX1_goBack 17 = .ok (.bipush 7, 2) := by decide +kernel
theorem dX1_goBack_19 : decode cX1_goBack 19 = .ok (.putfield 22, 3) := by decide +kernel
theorem dX1_goBack_22 : decode cX1_goBack 22 = .ok (.aload_n 1, 1) := by decide +kernel
theorem dX1_goBack_23 : decode cX1_goBack 23 = .ok (.aload_n 0, 1) := by decide +kernel
theorem dX1_goBack_24 : decode cX1_goBack 24 = .ok (.getfield 11, 3) := by decide +kernel
theorem dX1_goBack_27 : decode cX1_goBack 27 = .ok (.aload_n 0, 1) := by decide +kernel
theorem dX1_goBack_28 : decode cX1_goBack 28 = .ok (.getfield 22, 3) := by decide +kernel
theorem dX1_goBack_31 : decode cX1_goBack 31 = .ok (.aaload, 1) := by decide +kernel
theorem dX1_goBack_32 : decode cX1_goBack 32 = .ok (.invokevirtual 25, 3) := by decide +kernel
theorem dX1_goBack_35 : decode cX1_goBack 35 = .ok (.aload_n 0, 1) := by decide +kernel
theorem dX1_goBack_36 : decode cX1_goBack 36 = .ok (.dup, 1) := by decide +kernel
theorem dX1_goBack_37 : decode cX1_goBack 37 = .ok (.getfield 18, 3) := by decide +kernel
theorem dX1_goBack_40 : decode cX1_goBack 40 = .ok (.iconst 1, 1) := by decide +kernel
theorem dX1_goBack_41 : decode cX1_goBack 41 = .ok (.isub, 1) := by decide +kernel
theorem dX1_goBack_42 : decode cX1_goBack 42 = .ok (.putfield 18, 3) := by decide +kernel
theorem dX1_goBack_45 : decode cX1_goBack 45 = .ok (.return_, 1) := by decide +kernel
theorem dX2_init_0 : decode cX2_init 0 = .ok (.aload_n 0, 1) := by decide +kernel
theorem dX2_init_1 : decode cX2_init 1 = .ok (.invokespecial 3, 3) := by decide +kernel
theorem dX2_init_4 : decode cX2_init 4 = .ok (.aload_n 0, 1) := by decide +kernel
theorem dX2_init_5 : decode cX2_init 5 = .ok (.bipush 96, 2) := by decide +kernel
theorem dX2_init_7 : decode cX2_init 7 = .ok (.newarray .int, 2) := by decide +kernel
theorem dX2_init_9 : decode cX2_init 9 = .ok (.putfield 9, 3) := by decide +kernel
theorem dX2_init_12 : decode cX2_init 12 = .ok (.aload_n 0, 1) := by decide +kernel
theorem dX2_init_13 : decode cX2_init 13 = .ok (.bipush 96, 2) := by decide +kernel
theorem dX2_init_15 : decode cX2_init 15 = .ok (.newarray .int, 2) := by decide +kernel
theorem dX2_init_17 : decode cX2_init 17 = .ok (.putfield 15, 3) := by decide +kernel
theorem dX2_init_20 : decode cX2_init 20 = .ok (.aload_n 0, 1) := by decide +kernel
theorem dX2_init_21 : decode cX2_init 21 = .ok (.bipush 96, 2) := by decide +kernel
theorem dX2_init_23 : decode cX2_init 23 = .ok (.newarray .int, 2) := by decide +kernel
theorem dX2_init_25 : decode cX2_init 25 = .ok (.putfield 18, 3) := by decide +kernel
theorem dX2_init_28 : decode cX2_init 28 = .ok (.aload_n 0, 1) := by decide +kernel
theorem dX2_init_29 : decode cX2_init 29 = .ok (.bipush 96, 2) := by decide +kernel
theorem dX2_init_31 : decode cX2_init 31 = .ok (.newarray .boolean, 2) := by decide +kernel
theorem dX2_init_33 : decode cX2_init 33 = .ok (.putfield 21, 3) := by decide +kernel
theorem dX2_init_36 : decode cX2_init 36 = .ok (.aload_n 0, 1) := by decide +kernel
theorem dX2_init_37 : decode cX2_init 37 = .ok (.iconst 5, 1) := by decide +kernel
theorem dX2_init_38 : decode cX2_init 38 = .ok (.newarray .int, 2) := by decide +kernel
theorem dX2_init_40 : decode cX2_init 40 = .ok (.putfield 25, 3) := by decide +kernel
theorem dX2_init_43 : decode cX2_init 43 = .ok (.aload_n 0, 1) := by decide +kernel
theorem dX2_init_44 : decode cX2_init 44 = .ok (.bipush 9, 2) := by decide +kernel
theorem dX2_init_46 : decode cX2_init 46 = .ok (.newarray .int, 2) := by decide +kernel
theorem dX2_init_48 : decode cX2_init 48 = .ok (.putfield 28, 3) := by decide +kernel
theorem dX2_init_51 : decode cX2_init 51 = .ok (.aload_n 0, 1) := by decide +kernel
theorem dX2_init_52 : decode cX2_init 52 = .ok (.sipush 240, 3) := by decide +kernel
theorem dX2_init_55 : decode cX2_init 55 = .ok (.newarray .int, 2) := by decide +kernel
theorem dX2_init_57 : decode cX2_init 57 = .ok (.putfield 31, 3) := by decide +kernel
theorem dX2_init_60 : decode cX2_init 60 = .ok (.return_, 1) := by decide +kernel
theorem dX2_clear_0 : decode cX2_clear 0 = .ok (.aload_n 0, 1) := by decide +kernel
theorem dX2_clear_1 : decode cX2_clear 1 = .ok (.getfield 9, 3) := by decide +kernel
theorem dX2_clear_4 : decode cX2_clear 4 = .ok (.iconst 0, 1) := by decide +kernel
theorem dX2_clear_5 : decode cX2_clear 5 = .ok (.invokestatic 34, 3) := by decide +kernel
theorem dX2_clear_8 : decode cX2_clear 8 = .ok (.aload_n 0, 1) := by decide +kernel
theorem dX2_clear_9 : decode cX2_clear 9 = .ok (.getfield 15, 3) := by decide +kernel
theorem dX2_clear_12 : decode cX2_clear 12 = .ok (.iconst (-1), 1) := by decide +kernel
theorem dX2_clear_13 : decode cX2_clear 13 = .ok (.invokestatic 34, 3) := by decide +kernel
theorem dX2_clear_16 : decode cX2_clear 16 = .ok (.aload_n 0, 1) := by decide +kernel
theorem dX2_clear_17 : decode cX2_clear 17 = .ok (.getfield 18, 3) := by decide +kernel
theorem dX2_clear_20 : decode cX2_clear 20 = .ok (.iconst (-1), 1) := by decide +kernel
theorem dX2_clear_21 : decode cX2_clear 21 = .ok (.invokestatic 34, 3) := by decide +kernel
theorem dX2_clear_24 : decode cX2_clear 24 = .ok (.iconst 0, 1) := by decide +kernel
theorem dX2_clear_25 : decode cX2_clear 25 = .ok (.istore_n 1, 1) := by decide +kernel
theorem dX2_clear_26 : decode cX2_clear 26 = .ok (.iload_n 1, 1) := by decide +kernel
theorem dX2_clear_27 : decode cX2_clear 27 = .ok (.bipush 96, 2) := by decide +kernel
theorem dX2_clear_29 : decode cX2_clear 29 = .ok (.if_icmp .ge 16, 3) := by decide +kernel
theorem dX2_clear_32 : decode cX2_clear 32 = .ok (.aload_n 0, 1) := by decide +kernel
theorem dX2_clear_33 : decode cX2_clear 33 = .ok (.getfield 21, 3) := by decide +kernel
theorem dX2_clear_36 : decode cX2_clear 36 = .ok (.iload_n 1, 1) := by decide +kernel
theorem dX2_clear_37 : decode cX2_clear 37 = .ok (.iconst 0, 1) := by decide +kernel
theorem dX2_clear_38 : decode cX2_clear 38 = .ok (.bastore, 1) := by decide +kernel
theorem dX2_clear_39 : decode cX2_clear 39 = .ok (.iinc 1 1, 3) := by decide +kernel
theorem dX2_clear_42 : decode cX2_clear 42 = .ok (.goto (-16), 3) := by decide +kernel
theorem dX2_clear_45 : decode cX2_clear 45 = .ok (.aload_n 0, 1) := by decide +kernel
theorem dX2_clear_46 : decode cX2_clear 46 = .ok (.getfield 25, 3) := by decide +kernel
theorem dX2_clear_49 : decode cX2_clear 49 = .ok (.iconst 0, 1) := by decide +kernel
theorem dX2_clear_50 : decode cX2_clear 50 = .ok (.invokestatic 34, 3) := by decide +kernel
theorem dX2_clear_53 : decode cX2_clear 53 = .ok (.aload_n 0, 1) := by decide +kernel
theorem dX2_clear_54 : decode cX2_clear 54 = .ok (.getfield 28, 3) := by decide +kernel
theorem dX2_clear_57 : decode cX2_clear 57 = .ok (.iconst 0, 1) := by decide +kernel
theorem dX2_clear_58 : decode cX2_clear 58 = .ok (.invokestatic 34, 3) := by decide +kernel
theorem dX2_clear_61 : decode cX2_clear 61 = .ok (.aload_n 0, 1) := by decide +kernel
theorem dX2_clear_62 : decode cX2_clear 62 = .ok (.iconst 0, 1) := by decide +kernel
theorem dX2_clear_63 : decode cX2_clear 63 = .ok (.putfield 40, 3) := by decide +kernel
theorem dX2_clear_66 : decode cX2_clear 66 = .ok (.aload_n 0, 1) := by decide +kernel
theorem dX2_clear_67 : decode cX2_clear 67 = .ok (.iconst 0, 1) := by decide +kernel
theorem dX2_clear_68 : decode cX2_clear 68 = .ok (.putfield 44, 3) := by decide +kernel
theorem dX2_clear_71 : decode cX2_clear 71 = .ok (.return_, 1) := by decide +kernel
theorem dX2_takeFrom_0 : decode cX2_takeFrom 0 = .ok (.aload_n 1, 1) := by decide +kernel
theorem dX2_takeFrom_1 : decode cX2_takeFrom 1 = .ok (.getfield 9, 3) := by decide +kernel
theorem dX2_takeFrom_4 : decode cX2_takeFrom 4 = .ok (.iconst 0, 1) := by decide +kernel
theorem dX2_takeFrom_5 : decode cX2_takeFrom 5 = .ok (.aload_n 0, 1) := by decide +kernel
theorem dX2_takeFrom_6 : decode cX2_takeFrom 6 = .ok (.getfield 9, 3) := by decide +kernel
theorem dX2_takeFrom_9 : decode cX2_takeFrom 9 = .ok (.iconst 0, 1) := by decide +kernel
theorem dX2_takeFrom_10 : decode cX2_takeFrom 10 = .ok (.bipush 96, 2) := by decide +kernel
theorem dX2_takeFrom_12 : decode cX2_takeFrom 12 = .ok (.invokestatic 47, 3) := by decide +kernel
theorem dX2_takeFrom_15 : decode cX2_takeFrom 15 = .ok (.aload_n 1, 1) := by decide +kernel
theorem dX2_takeFrom_16 : decode cX2_takeFrom 16 = .ok (.getfield 15, 3) := by decide +kernel
theorem dX2_takeFrom_19 : decode cX2_takeFrom 19 = .ok (.iconst 0, 1) := by decide +kernel
theorem dX2_takeFrom_20 : decode cX2_takeFrom 20 = .ok (.aload_n 0, 1) := by decide +kernel
theorem dX2_takeFrom_21 : decode cX2_takeFrom 21 = .ok (.getfield 15, 3) := by decide +kernel
theorem dX2_takeFrom_24 : decode cX2_takeFrom 24 = .ok (.iconst 0, 1) := by decide +kernel
theorem dX2_takeFrom_25 : decode cX2_takeFrom 25 = .ok (.bipush 96, 2) := by decide +kernel
theorem dX2_takeFrom_27 : decode cX2_takeFrom 27 = .ok (.invokestatic 47, 3) := by decide +kernel
theorem dX2_takeFrom_30 : decode cX2_takeFrom 30 = .ok (.aload_n 1, 1) := by decide +kernel
theorem dX2_takeFrom_31 : decode cX2_takeFrom 31 = .ok (.getfield 18, 3) := by decide +kernel
theorem dX2_takeFrom_34 : decode cX2_takeFrom 34 = .ok (.iconst 0, 1) := by decide +kernel
theorem dX2_takeFrom_35 : decode cX2_takeFrom 35 = .ok (.aload_n 0, 1) := by decide +kernel
theorem dX2_takeFrom_36 : decode cX2_takeFrom 36 = .ok (.getfield 18, 3) := by decide +kernel
theorem dX2_takeFrom_39 : decode cX2_takeFrom 39 = .ok (.iconst 0, 1) := by decide +kernel
theorem dX2_takeFrom_40 : decode cX2_takeFrom 40 = .ok (.bipush 96, 2) := by decide +kernel
theorem dX2_takeFrom_42 : decode cX2_takeFrom 42 = .ok (.invokestatic 47, 3) := by decide +kernel
theorem dX2_takeFrom_45 : decode cX2_takeFrom 45 = .ok (.iconst 0, 1) := by decide +kernel
theorem dX2_takeFrom_46 : decode cX2_takeFrom 46 = .ok (.istore_n 2, 1) := by decide +kernel
theorem dX2_takeFrom_47 : decode cX2_takeFrom 47 = .ok (.iload_n 2, 1) := by decide +kernel
theorem dX2_takeFrom_48 : decode cX2_takeFrom 48 = .ok (.bipush 96, 2) := by decide +kernel
theorem dX2_takeFrom_50 : decode cX2_takeFrom 50 = .ok (.if_icmp .ge 21, 3) := by decide +kernel
theorem dX2_takeFrom_53 : decode cX2_takeFrom 53 = .ok (.aload_n 0, 1) := by decide +kernel
theorem dX2_takeFrom_54 : decode cX2_takeFrom 54 = .ok (.getfield 21, 3) := by decide +kernel
theorem dX2_takeFrom_57 : decode cX2_takeFrom 57 = .ok (.iload_n 2, 1) := by decide +kernel
theorem dX2_takeFrom_58 : decode cX2_takeFrom 58 = .ok (.aload_n 1, 1) := by decide +kernel
theorem dX2_takeFrom_59 : decode cX2_takeFrom 59 = .ok (.getfield 21, 3) := by decide +kernel
theorem dX2_takeFrom_62 : decode cX2_takeFrom 62 = .ok (.iload_n 2, 1) := by decide +kernel
theorem dX2_takeFrom_63 : decode cX2_takeFrom 63 = .ok (.baload, 1) := by decide +kernel
theorem dX2_takeFrom_64 : decode cX2_takeFrom 64 = .ok (.bastore, 1) := by decide +kernel
theorem dX2_takeFrom_65 : decode cX2_takeFrom 65 = .ok (.iinc 2 1, 3) := by decide +kernel
theorem dX2_takeFrom_68 : decode cX2_takeFrom 68 = .ok (.goto (-21), 3) := by decide +kernel
theorem dX2_takeFrom_71 : decode cX2_takeFrom 71 = .ok (.aload_n 1, 1) := by decide +kernel
theorem dX2_takeFrom_72 : decode cX2_takeFrom 72 = .ok (.getfield 25, 3) := by decide +kernel
theorem dX2_takeFrom_75 : decode cX2_takeFrom 75 = .ok (.iconst 0, 1) := by decide +kernel
theorem dX2_takeFrom_76 : decode cX2_takeFrom 76 = .ok (.aload_n 0, 1) := by decide +kernel
theorem dX2_takeFrom_77 : decode cX2_takeFrom 77 = .ok (.getfield 25, 3) := by decide +kernel
theorem dX2_takeFrom_80 : decode cX2_takeFrom 80 = .ok (.iconst 0, 1) := by decide +kernel
theorem dX2_takeFrom_81 : decode cX2_takeFrom 81 = .ok (.iconst 5, 1) := by decide +kernel
theorem dX2_takeFrom_82 : decode cX2_takeFrom 82 = .ok (.invokestatic 47, 3) := by decide +kernel
theorem dX2_takeFrom_85 : decode cX2_takeFrom 85 = .ok (.aload_n 1, 1) := by decide +kernel
theorem dX2_takeFrom_86 : decode cX2_takeFrom 86 = .ok (.getfield 28, 3) := by decide +kernel
theorem dX2_takeFrom_89 : decode cX2_takeFrom 89 = .ok (.iconst 0, 1) := by decide +kernel
theorem dX2_takeFrom_90 : decode cX2_takeFrom 90 = .ok (.aload_n 0, 1) := by decide +kernel
theorem dX2_takeFrom_91 : decode cX2_takeFrom 91 = .ok (.getfield 28, 3) := by decide +kernel
theorem dX2_takeFrom_94 : decode cX2_takeFrom 94 = .ok (.iconst 0, 1) := by decide +kernel
theorem dX2_takeFrom_95 : decode cX2_takeFrom 95 = .ok (.bipush 9, 2) := by decide +kernel
theorem dX2_takeFrom_97 : decode cX2_takeFrom 97 = .ok (.invokestatic 47, 3) := by decide +kernel
theorem dX2_takeFrom_100 : decode cX2_takeFrom 100 = .ok (.aload_n 1, 1) := by decide +kernel
theorem dX2_takeFrom_101 : decode cX2_takeFrom 101 = .ok (.getfield 31, 3) := by decide +kernel
theorem dX2_takeFrom_104 : decode cX2_takeFrom 104 = .ok (.iconst 0, 1) := by decide +kernel
theorem dX2_takeFrom_105 : decode cX2_takeFrom 105 = .ok (.aload_n 0, 1) := by decide +kernel
theorem dX2_takeFrom_106 : decode cX2_takeFrom 106 = .ok (.getfield 31, 3) := by decide +kernel
theorem dX2_takeFrom_109 : decode cX2_takeFrom 109 = .ok (.iconst 0, 1) := by decide +kernel
theorem dX2_takeFrom_110 : decode cX2_takeFrom 110 = .ok (.sipush 240, 3) := by decide +kernel
theorem dX2_takeFrom_113 : decode cX2_takeFrom 113 = .ok (.invokestatic 47, 3) := by decide +kernel
theorem dX2_takeFrom_116 : decode cX2_takeFrom 116 = .ok (.aload_n 0, 1) := by decide +kernel
theorem dX2_takeFrom_117 : decode cX2_takeFrom 117 = .ok (.aload_n 1, 1) := by decide +kernel
theorem dX2_takeFrom_118 : decode cX2_takeFrom 118 = .ok (.getfield 40, 3) := by decide +kernel
theorem dX2_takeFrom_121 : decode cX2_takeFrom 121 = .ok (.putfield 40, 3) := by decide +kernel
theorem dX2_takeFrom_124 : decode cX2_takeFrom 124 = .ok (.aload_n 0, 1) := by decide +kernel
theorem dX2_takeFrom_125 : decode cX2_takeFrom 125 = .ok (.aload_n 1, 1) := by decide +kernel
theorem dX2_takeFrom_126 : decode cX2_takeFrom 126 = .ok (.getfield 44, 3) := by decide +kernel
theorem dX2_takeFrom_129 : decode cX2_takeFrom 129 = .ok (.putfield 44, 3) := by decide +kernel
theorem dX2_takeFrom_132 : decode cX2_takeFrom 132 = .ok (.return_, 1) := by decide +kernel
theorem dX2_isPlace_0 : decode cX2_isPlace 0 = .ok (.iload_n 1, 1) := by decide +kernel
theorem dX2_isPlace_1 : decode cX2_isPlace 1 = .ok (.ifCond .lt 15, 3) := by decide +kernel
theorem dX2_isPlace_4 : decode cX2_isPlace 4 = .ok (.iload_n 1, 1) := by decide +kernel
theorem dX2_isPlace_5 : decode cX2_isPlace 5 = .ok (.aload_n 0, 1) := by decide +kernel
theorem dX2_isPlace_6 : decode cX2_isPlace 6 = .ok (.getfield 40, 3) := by decide +kernel
theorem dX2_isPlace_9 : decode cX2_isPlace 9 = .ok (.if_icmp .ge 7, 3) := by decide +kernel
theorem dX2_isPlace_12 : decode cX2_isPlace 12 = .ok (.iconst 1, 1) := by decide +kernel
theorem dX2_isPlace_13 : decode cX2_isPlace 13 = .ok (.goto 4, 3) := by decide +kernel
theorem dX2_isPlace_16 : decode cX2_isPlace 16 = .ok (.iconst 0, 1) := by decide +kernel
theorem dX2_isPlace_17 : decode cX2_isPlace 17 = .ok (.ireturn, 1) := by decide +kernel
theorem dX2_hasRow_0 : decode cX2_hasRow 0 = .ok (.aload_n 0, 1) := by decide +kernel
theorem dX2_hasRow_1 : decode cX2_hasRow 1 = .ok (.iload_n 1, 1) := by decide +kernel
theorem dX2_hasRow_2 : decode cX2_hasRow 2 = .ok (.invokevirtual 53, 3) := by decide +kernel
theorem dX2_hasRow_5 : decode cX2_hasRow 5 = .ok (.ifCond .eq 17, 3) := by decide +kernel
theorem dX2_hasRow_8 : decode cX2_hasRow 8 = .ok (.iload_n 2, 1) := by decide +kernel
theorem dX2_hasRow_9 : decode cX2_hasRow 9 = .ok (.aload_n 0, 1) := by decide +kernel
theorem dX2_hasRow_10 : decode cX2_hasRow 10 = .ok (.getfield 40, 3) := by decide +kernel
theorem dX2_hasRow_13 : decode cX2_hasRow 13 = .ok (.iload_n 1, 1) := by decide +kernel
theorem dX2_hasRow_14 : decode cX2_hasRow 14 = .ok (.isub, 1) := by decide +kernel
theorem dX2_hasRow_15 : decode cX2_hasRow 15 = .ok (.if_icmp .gt 7, 3) := by decide +kernel
theorem dX2_hasRow_18 : decode cX2_hasRow 18 = .ok (.iconst 1, 1) := by decide +kernel
theorem dX2_hasRow_19 : decode cX2_hasRow 19 = .ok (.goto 4, 3) := by decide +kernel
theorem dX2_hasRow_22 : decode cX2_hasRow 22 = .ok (.iconst 0, 1) := by decide +kernel
theorem dX2_hasRow_23 : decode cX2_hasRow 23 = .ok (.ireturn, 1) := by decide +kernel
theorem dX2_owes_0 : decode cX2_owes 0 = .ok (.iload_n 1, 1) := by decide +kernel
theorem dX2_owes_1 : decode cX2_owes 1 = .ok (.ifCond .lt 25, 3) := by decide +kernel
theorem dX2_owes_4 : decode cX2_owes 4 = .ok (.iload_n 1, 1) := by decide +kernel
theorem dX2_owes_5 : decode cX2_owes 5 = .ok (.aload_n 0, 1) := by decide +kernel
theorem dX2_owes_6 : decode cX2_owes 6 = .ok (.getfield 40, 3) := by decide +kernel
theorem dX2_owes_9 : decode cX2_owes 9 = .ok (.if_icmp .ge 17, 3) := by decide +kernel
theorem dX2_owes_12 : decode cX2_owes 12 = .ok (.aload_n 0, 1) := by decide +kernel
theorem dX2_owes_13 : decode cX2_owes 13 = .ok (.getfield 15, 3) := by decide +kernel
theorem dX2_owes_16 : decode cX2_owes 16 = .ok (.iload_n 1, 1) := by decide +kernel
theorem dX2_owes_17 : decode cX2_owes 17 = .ok (.iaload, 1) := by decide +kernel
theorem dX2_owes_18 : decode cX2_owes 18 = .ok (.iconst (-1), 1) := by decide +kernel
theorem dX2_owes_19 : decode cX2_owes 19 = .ok (.if_icmp .eq 7, 3) := by decide +kernel
theorem dX2_owes_22 : decode cX2_owes 22 = .ok (.iconst 1, 1) := by decide +kernel
theorem dX2_owes_23 : decode cX2_owes 23 = .ok (.goto 4, 3) := by decide +kernel
theorem dX2_owes_26 : decode cX2_owes 26 = .ok (.iconst 0, 1) := by decide +kernel
theorem dX2_owes_27 : decode cX2_owes 27 = .ok (.ireturn, 1) := by decide +kernel
theorem dX2_rootOf_0 : decode cX2_rootOf 0 = .ok (.iload_n 1, 1) := by decide +kernel
theorem dX2_rootOf_1 : decode cX2_rootOf 1 = .ok (.istore_n 2, 1) := by decide +kernel
theorem dX2_rootOf_2 : decode cX2_rootOf 2 = .ok (.iconst 0, 1) := by decide +kernel
theorem dX2_rootOf_3 : decode cX2_rootOf 3 = .ok (.istore_n 3, 1) := by decide +kernel
theorem dX2_rootOf_4 : decode cX2_rootOf 4 = .ok (.iload_n 3, 1) := by decide +kernel
theorem dX2_rootOf_5 : decode cX2_rootOf 5 = .ok (.bipush 96, 2) := by decide +kernel
theorem dX2_rootOf_7 : decode cX2_rootOf 7 = .ok (.if_icmp .ge 26, 3) := by decide +kernel
theorem dX2_rootOf_10 : decode cX2_rootOf 10 = .ok (.aload_n 0, 1) := by decide +kernel
theorem dX2_rootOf_11 : decode cX2_rootOf 11 = .ok (.getfield 15, 3) := by decide +kernel
theorem dX2_rootOf_14 : decode cX2_rootOf 14 = .ok (.iload_n 2, 1) := by decide +kernel
theorem dX2_rootOf_15 : decode cX2_rootOf 15 = .ok (.iaload, 1) := by decide +kernel
theorem dX2_rootOf_16 : decode cX2_rootOf 16 = .ok (.iconst (-1), 1) := by decide +kernel
theorem dX2_rootOf_17 : decode cX2_rootOf 17 = .ok (.if_icmp .eq 16, 3) := by decide +kernel
theorem dX2_rootOf_20 : decode cX2_rootOf 20 = .ok (.aload_n 0, 1) := by decide +kernel
theorem dX2_rootOf_21 : decode cX2_rootOf 21 = .ok (.getfield 15, 3) := by decide +kernel
theorem dX2_rootOf_24 : decode cX2_rootOf 24 = .ok (.iload_n 2, 1) := by decide +kernel
theorem dX2_rootOf_25 : decode cX2_rootOf 25 = .ok (.iaload, 1) := by decide +kernel
theorem dX2_rootOf_26 : decode cX2_rootOf 26 = .ok (.istore_n 2, 1) := by decide +kernel
theorem dX2_rootOf_27 : decode cX2_rootOf 27 = .ok (.iinc 3 1, 3) := by decide +kernel
theorem dX2_rootOf_30 : decode cX2_rootOf 30 = .ok (.goto (-26), 3) := by decide +kernel
theorem dX2_rootOf_33 : decode cX2_rootOf 33 = .ok (.iload_n 2, 1) := by decide +kernel
theorem dX2_rootOf_34 : decode cX2_rootOf 34 = .ok (.ireturn, 1) := by decide +kernel
theorem dX2_hopsOf_0 : decode cX2_hopsOf 0 = .ok (.aload_n 0, 1) := by decide +kernel
theorem dX2_hopsOf_1 : decode cX2_hopsOf 1 = .ok (.iload_n 1, 1) := by decide +kernel
theorem dX2_hopsOf_2 : decode cX2_hopsOf 2 = .ok (.aload_n 0, 1) := by decide +kernel
theorem dX2_hopsOf_3 : decode cX2_hopsOf 3 = .ok (.iload_n 1, 1) := by decide +kernel
theorem dX2_hopsOf_4 : decode cX2_hopsOf 4 = .ok (.invokevirtual 57, 3) := by decide +kernel
theorem dX2_hopsOf_7 : decode cX2_hopsOf 7 = .ok (.invokevirtual 61, 3) := by decide +kernel
theorem dX2_hopsOf_10 : decode cX2_hopsOf 10 = .ok (.ireturn, 1) := by decide +kernel
theorem dX2_valueOf_0 : decode cX2_valueOf 0 = .ok (.aload_n 0, 1) := by decide +kernel
theorem dX2_valueOf_1 : decode cX2_valueOf 1 = .ok (.getfield 9, 3) := by decide +kernel
theorem dX2_valueOf_4 : decode cX2_valueOf 4 = .ok (.aload_n 0, 1) := by decide +kernel
theorem dX2_valueOf_5 : decode cX2_valueOf 5 = .ok (.iload_n 1, 1) := by decide +kernel
theorem dX2_valueOf_6 : decode cX2_valueOf 6 = .ok (.invokevirtual 57, 3) := by decide +kernel
theorem dX2_valueOf_9 : decode cX2_valueOf 9 = .ok (.iaload, 1) := by decide +kernel
theorem dX2_valueOf_10 : decode cX2_valueOf 10 = .ok (.ireturn, 1) := by decide +kernel
theorem dX2_hopsBetween_0 : decode cX2_hopsBetween 0 = .ok (.iload_n 1, 1) := by decide +kernel
theorem dX2_hopsBetween_1 : decode cX2_hopsBetween 1 = .ok (.istore_n 3, 1) := by decide +kernel
theorem dX2_hopsBetween_2 : decode cX2_hopsBetween 2 = .ok (.iconst 0, 1) := by decide +kernel
theorem dX2_hopsBetween_3 : decode cX2_hopsBetween 3 = .ok (.istore 4, 2) := by decide +kernel
theorem dX2_hopsBetween_5 : decode cX2_hopsBetween 5 = .ok (.iload 4, 2) := by decide +kernel
theorem dX2_hopsBetween_7 : decode cX2_hopsBetween 7 = .ok (.bipush 96, 2) := by decide +kernel
theorem dX2_hopsBetween_9 : decode cX2_hopsBetween 9 = .ok (.if_icmp .ge 34, 3) := by decide +kernel
theorem dX2_hopsBetween_12 : decode cX2_hopsBetween 12 = .ok (.iload_n 3, 1) := by decide +kernel
theorem dX2_hopsBetween_13 : decode cX2_hopsBetween 13 = .ok (.iload_n 2, 1) := by decide +kernel
theorem dX2_hopsBetween_14 : decode cX2_hopsBetween 14 = .ok (.if_icmp .ne 6, 3) := by decide +kernel
theorem dX2_hopsBetween_17 : decode cX2_hopsBetween 17 = .ok (.iload 4, 2) := by decide +kernel
theorem dX2_hopsBetween_19 : decode cX2_hopsBetween 19 = .ok (.ireturn, 1) := by decide +kernel
theorem dX2_hopsBetween_20 : decode cX2_hopsBetween 20 = .ok (.aload_n 0, 1) := by decide +kernel
theorem dX2_hopsBetween_21 : decode cX2_hopsBetween 21 = .ok (.iload_n 3, 1) := by decide +kernel
theorem dX2_hopsBetween_22 : decode cX2_hopsBetween 22 = .ok (.invokevirtual 65, 3) := by decide +kernel
theorem dX2_hopsBetween_25 : decode cX2_hopsBetween 25 = .ok (.ifCond .ne 5, 3) := by decide +kernel
theorem dX2_hopsBetween_28 : decode cX2_hopsBetween 28 = .ok (.iconst (-1), 1) := by decide +kernel
theorem dX2_hopsBetween_29 : decode cX2_hopsBetween 29 = .ok (.ireturn, 1) := by decide +kernel
theorem dX2_hopsBetween_30 : decode cX2_hopsBetween 30 = .ok (.aload_n 0, 1) := by decide +kernel
theorem dX2_hopsBetween_31 : decode cX2_hopsBetween 31 = .ok (.getfield 15, 3) := by decide +kernel
theorem dX2_hopsBetween_34 : decode cX2_hopsBetween 34 = .ok (.iload_n 3, 1) := by decide +kernel
theorem dX2_hopsBetween_35 : decode cX2_hopsBetween 35 = .ok (.iaload, 1) := by decide +kernel
theorem dX2_hopsBetween_36 : decode cX2_hopsBetween 36 = .ok (.istore_n 3, 1) := by decide +kernel
theorem dX2_hopsBetween_37 : decode cX2_hopsBetween 37 = .ok (.iinc 4 1, 3) := by decide +kernel
theorem dX2_hopsBetween_40 : decode cX2_hopsBetween 40 = .ok (.goto (-35), 3) := by decide +kernel
theorem dX2_hopsBetween_43 : decode cX2_hopsBetween 43 = .ok (.iconst (-1), 1) := by decide +kernel
theorem dX2_hopsBetween_44 : decode cX2_hopsBetween 44 = .ok (.ireturn, 1) := by decide +kernel
theorem dX2_countOwed_0 : decode cX2_countOwed 0 = .ok (.aload_n 0, 1) := by decide +kernel
theorem dX2_countOwed_1 : decode cX2_countOwed 1 = .ok (.iconst 0, 1) := by decide +kernel
theorem dX2_countOwed_2 : decode cX2_countOwed 2 = .ok (.aload_n 0, 1) := by decide +kernel
theorem dX2_countOwed_3 : decode cX2_countOwed 3 = .ok (.getfield 40, 3) := by decide +kernel
theorem dX2_countOwed_6 : decode cX2_countOwed 6 = .ok (.iconst 1, 1) := by decide +kernel
theorem dX2_countOwed_7 : decode cX2_countOwed 7 = .ok (.isub, 1) := by decide +kernel
theorem dX2_countOwed_8 : decode cX2_countOwed 8 = .ok (.invokevirtual 68, 3) := by decide +kernel
theorem dX2_countOwed_11 : decode cX2_countOwed 11 = .ok (.ireturn, 1) := by decide +kernel
theorem dX2_countOwedIn_0 : decode cX2_countOwedIn 0 = .ok (.iconst 0, 1) := by decide +kernel
theorem dX2_countOwedIn_1 : decode cX2_countOwedIn 1 = .ok (.istore_n 3, 1) := by decide +kernel
theorem dX2_countOwedIn_2 : decode cX2_countOwedIn 2 = .ok (.iload_n 1, 1) := by decide +kernel
theorem dX2_countOwedIn_3 : decode cX2_countOwedIn 3 = .ok (.istore 4, 2) := by decide +kernel
theorem dX2_countOwedIn_5 : decode cX2_countOwedIn 5 = .ok (.iload 4, 2) := by decide +kernel
theorem dX2_countOwedIn_7 : decode cX2_countOwedIn 7 = .ok (.iload_n 2, 1) := by decide +kernel
theorem dX2_countOwedIn_8 : decode cX2_countOwedIn 8 = .ok (.if_icmp .gt 23, 3) := by decide +kernel
theorem dX2_countOwedIn_11 : decode cX2_countOwedIn 11 = .ok (.aload_n 0, 1) := by decide +kernel
theorem dX2_countOwedIn_12 : decode cX2_countOwedIn 12 = .ok (.getfield 15, 3) := by decide +kernel
theorem dX2_countOwedIn_15 : decode cX2_countOwedIn 15 = .ok (.iload 4, 2) := by decide +kernel
theorem dX2_countOwedIn_17 : decode cX2_countOwedIn 17 = .ok (.iaload, 1) := by decide +kernel
theorem dX2_countOwedIn_18 : decode cX2_countOwedIn 18 = .ok (.iconst (-1), 1) := by decide +kernel
theorem dX2_countOwedIn_19 : decode cX2_countOwedIn 19 = .ok (.if_icmp .eq 6, 3) := by decide +kernel
theorem dX2_countOwedIn_22 : decode cX2_countOwedIn 22 = .ok (.iinc 3 1, 3) := by decide +kernel
theorem dX2_countOwedIn_25 : decode cX2_countOwedIn 25 = .ok (.iinc 4 1, 3) := by decide +kernel
theorem dX2_countOwedIn_28 : decode cX2_countOwedIn 28 = .ok (.goto (-23), 3) := by decide +kernel
theorem dX2_countOwedIn_31 : decode cX2_countOwedIn 31 = .ok (.iload_n 3, 1) := by decide +kernel
theorem dX2_countOwedIn_32 : decode cX2_countOwedIn 32 = .ok (.ireturn, 1) := by decide +kernel
theorem dX2_isSource_0 : decode cX2_isSource 0 = .ok (.iconst 0, 1) := by decide +kernel
theorem dX2_isSource_1 : decode cX2_isSource 1 = .ok (.istore_n 2, 1) := by decide +kernel
theorem dX2_isSource_2 : decode cX2_isSource 2 = .ok (.iload_n 2, 1) := by decide +kernel
theorem dX2_isSource_3 : decode cX2_isSource 3 = .ok (.aload_n 0, 1) := by decide +kernel
theorem dX2_isSource_4 : decode cX2_isSource 4 = .ok (.getfield 40, 3) := by decide +kernel
theorem dX2_isSource_7 : decode cX2_isSource 7 = .ok (.if_icmp .ge 21, 3) := by decide +kernel
theorem dX2_isSource_10 : decode cX2_isSource 10 = .ok (.aload_n 0, 1) := by decide +kernel
theorem dX2_isSource_11 : decode cX2_isSource 11 = .ok (.getfield 15, 3) := by decide +kernel
theorem dX2_isSource_14 : decode cX2_isSource 14 = .ok (.iload_n 2, 1) := by decide +kernel
theorem dX2_isSource_15 : decode cX2_isSource 15 = .ok (.iaload, 1) := by decide +kernel
theorem dX2_isSource_16 : decode cX2_isSource 16 = .ok (.iload_n 1, 1) := by decide +kernel
theorem dX2_isSource_17 : decode cX2_isSource 17 = .ok (.if_icmp .ne 5, 3) := by decide +kernel
theorem dX2_isSource_20 : decode cX2_isSource 20 = .ok (.iconst 1, 1) := by decide +kernel
theorem dX2_isSource_21 : decode cX2_isSource 21 = .ok (.ireturn, 1) := by decide +kernel
theorem dX2_isSource_22 : decode cX2_isSource 22 = .ok (.iinc 2 1, 3) := by decide +kernel
theorem dX2_isSource_25 : decode cX2_isSource 25 = .ok (.goto (-23), 3) := by decide +kernel
theorem dX2_isSource_28 : decode cX2_isSource 28 = .ok (.iconst 0, 1) := by decide +kernel
theorem dX2_isSource_29 : decode cX2_isSource 29 = .ok (.ireturn, 1) := by decide +kernel
theorem dX2_hasLockIn_0 : decode cX2_hasLockIn 0 = .ok (.iload_n 1, 1) := by decide +kernel
theorem dX2_hasLockIn_1 : decode cX2_hasLockIn 1 = .ok (.istore_n 3, 1) := by decide +kernel
theorem dX2_hasLockIn_2 : decode cX2_hasLockIn 2 = .ok (.iload_n 3, 1) := by decide +kernel
theorem dX2_hasLockIn_3 : decode cX2_hasLockIn 3 = .ok (.iload_n 2, 1) := by decide +kernel
theorem dX2_hasLockIn_4 : decode cX2_hasLockIn 4 = .ok (.if_icmp .gt 28, 3) := by decide +kernel
theorem dX2_hasLockIn_7 : decode cX2_hasLockIn 7 = .ok (.aload_n 0, 1) := by decide +kernel
theorem dX2_hasLockIn_8 : decode cX2_hasLockIn 8 = .ok (.iload_n 3, 1) := by decide +kernel
theorem dX2_hasLockIn_9 : decode cX2_hasLockIn 9 = .ok (.invokevirtual 53, 3) := by decide +kernel
theorem dX2_hasLockIn_12 : decode cX2_hasLockIn 12 = .ok (.ifCond .eq 14, 3) := by decide +kernel
theorem dX2_hasLockIn_15 : decode cX2_hasLockIn 15 = .ok (.aload_n 0, 1) := by decide +kernel
theorem dX2_hasLockIn_16 : decode cX2_hasLockIn 16 = .ok (.getfield 21, 3) := by decide +kernel
theorem dX2_hasLockIn_19 : decode cX2_hasLockIn 19 = .ok (.iload_n 3, 1) := by decide +kernel
theorem dX2_hasLockIn_20 : decode cX2_hasLockIn 20 = .ok (.baload, 1) := by decide +kernel
theorem dX2_hasLockIn_21 : decode cX2_hasLockIn 21 = .ok (.ifCond .eq 5, 3) := by decide +kernel
theorem dX2_hasLockIn_24 : decode cX2_hasLockIn 24 = .ok (.iconst 1, 1) := by decide +kernel
theorem dX2_hasLockIn_25 : decode cX2_hasLockIn 25 = .ok (.ireturn, 1) := by decide +kernel
theorem dX2_hasLockIn_26 : decode cX2_hasLockIn 26 = .ok (.iinc 3 1, 3) := by decide +kernel
theorem dX2_hasLockIn_29 : decode cX2_hasLockIn 29 = .ok (.goto (-27), 3) := by decide +kernel
theorem dX2_hasLockIn_32 : decode cX2_hasLockIn 32 = .ok (.iconst 0, 1) := by decide +kernel
theorem dX2_hasLockIn_33 : decode cX2_hasLockIn 33 = .ok (.ireturn, 1) := by decide +kernel
theorem dX2_refusalOf_0 : decode cX2_refusalOf 0 = .ok (.iload_n 3, 1) := by decide +kernel
theorem dX2_refusalOf_1 : decode cX2_refusalOf 1 = .ok (.iconst 1, 1) := by decide +kernel
theorem dX2_refusalOf_2 : decode cX2_refusalOf 2 = .ok (.if_icmp .ge 5, 3) := by decide +kernel
theorem dX2_refusalOf_5 : decode cX2_refusalOf 5 = .ok (.iconst 1, 1) := by decide +kernel
theorem dX2_refusalOf_6 : decode cX2_refusalOf 6 = .ok (.ireturn, 1) := by decide +kernel
theorem dX2_refusalOf_7 : decode cX2_refusalOf 7 = .ok (.aload_n 0, 1) := by decide +kernel
theorem dX2_refusalOf_8 : decode cX2_refusalOf 8 = .ok (.iload_n 1, 1) := by decide +kernel
theorem dX2_refusalOf_9 : decode cX2_refusalOf 9 = .ok (.iload_n 3, 1) := by decide +kernel
theorem dX2_refusalOf_10 : decode cX2_refusalOf 10 = .ok (.invokevirtual 71, 3) := by decide +kernel
theorem dX2_refusalOf_13 : decode cX2_refusalOf 13 = .ok (.ifCond .eq 12, 3) := by decide +kernel
theorem dX2_refusalOf_16 : decode cX2_refusalOf 16 = .ok (.aload_n 0, 1) := by decide +kernel
theorem dX2_refusalOf_17 : decode cX2_refusalOf 17 = .ok (.iload_n 2, 1) := by decide +kernel
theorem dX2_refusalOf_18 : decode cX2_refusalOf 18 = .ok (.iload_n 3, 1) := by decide +kernel
theorem dX2_refusalOf_19 : decode cX2_refusalOf 19 = .ok (.invokevirtual 71, 3) := by decide +kernel
theorem dX2_refusalOf_22 : decode cX2_refusalOf 22 = .ok (.ifCond .ne 5, 3) := by decide +kernel
theorem dX2_refusalOf_25 : decode cX2_refusalOf 25 = .ok (.iconst 2, 1) := by decide +kernel
theorem dX2_refusalOf_26 : decode cX2_refusalOf 26 = .ok (.ireturn, 1) := by decide +kernel
theorem dX2_refusalOf_27 : decode cX2_refusalOf 27 = .ok (.aload_n 0, 1) := by decide +kernel
theorem dX2_refusalOf_28 : decode cX2_refusalOf 28 = .ok (.iload_n 2, 1) := by decide +kernel
theorem dX2_refusalOf_29 : decode cX2_refusalOf 29 = .ok (.iload_n 2, 1) := by decide +kernel
theorem dX2_refusalOf_30 : decode cX2_refusalOf 30 = .ok (.iload_n 3, 1) := by decide +kernel
theorem dX2_refusalOf_31 : decode cX2_refusalOf 31 = .ok (.iadd, 1) := by decide +kernel
theorem dX2_refusalOf_32 : decode cX2_refusalOf 32 = .ok (.iconst 1, 1) := by decide +kernel
theorem dX2_refusalOf_33 : decode cX2_refusalOf 33 = .ok (.isub, 1) := by decide +kernel
theorem dX2_refusalOf_34 : decode cX2_refusalOf 34 = .ok (.invokevirtual 75, 3) := by decide +kernel
theorem dX2_refusalOf_37 : decode cX2_refusalOf 37 = .ok (.ifCond .eq 7, 3) := by decide +kernel
theorem dX2_refusalOf_40 : decode cX2_refusalOf 40 = .ok (.iconst 3, 1) := by decide +kernel
theorem dX2_refusalOf_41 : decode cX2_refusalOf 41 = .ok (.goto 4, 3) := by decide +kernel
theorem dX2_refusalOf_44 : decode cX2_refusalOf 44 = .ok (.iconst 0, 1) := by decide +kernel
theorem dX2_refusalOf_45 : decode cX2_refusalOf 45 = .ok (.ireturn, 1) := by decide +kernel
theorem dX2_continuesDebt_0 : decode cX2_continuesDebt 0 = .ok (.aload_n 0, 1) := by decide +kernel
theorem dX2_continuesDebt_1 : decode cX2_continuesDebt 1 = .ok (.iload_n 1, 1) := by decide +kernel
theorem dX2_continuesDebt_2 : decode cX2_continuesDebt 2 = .ok (.invokevirtual 65, 3) := by decide +kernel
theorem dX2_continuesDebt_5 : decode cX2_continuesDebt 5 = .ok (.ifCond .eq 53, 3) := by decide +kernel
theorem dX2_continuesDebt_8 : decode cX2_continuesDebt 8 = .ok (.aload_n 0, 1) := by decide +kernel
theorem dX2_continuesDebt_9 : decode cX2_continuesDebt 9 = .ok (.iload_n 1, 1) := by decide +kernel
theorem dX2_continuesDebt_10 : decode cX2_continuesDebt 10 = .ok (.iconst 1, 1) := by decide +kernel
theorem dX2_continuesDebt_11 : decode cX2_continuesDebt 11 = .ok (.isub, 1) := by decide +kernel
theorem dX2_continuesDebt_12 : decode cX2_continuesDebt 12 = .ok (.invokevirtual 65, 3) := by decide +kernel
theorem dX2_continuesDebt_15 : decode cX2_continuesDebt 15 = .ok (.ifCond .eq 43, 3) := by decide +kernel
theorem dX2_continuesDebt_18 : decode cX2_continuesDebt 18 = .ok (.aload_n 0, 1) := by decide +kernel
theorem dX2_continuesDebt_19 : decode cX2_continuesDebt 19 = .ok (.getfield 18, 3) := by decide +kernel
theorem dX2_continuesDebt_22 : decode cX2_continuesDebt 22 = .ok (.iload_n 1, 1) := by decide +kernel
theorem dX2_continuesDebt_23 : decode cX2_continuesDebt 23 = .ok (.iaload, 1) := by decide +kernel
theorem dX2_continuesDebt_24 : decode cX2_continuesDebt 24 = .ok (.aload_n 0, 1) := by decide +kernel
theorem dX2_continuesDebt_25 : decode cX2_continuesDebt 25 = .ok (.getfield 18, 3) := by decide +kernel
theorem dX2_continuesDebt_28 : decode cX2_continuesDebt 28 = .ok (.iload_n 1, 1) := by decide +kernel
theorem dX2_continuesDebt_29 : decode cX2_continuesDebt 29 = .ok (.iconst 1, 1) := by decide +kernel
theorem dX2_continuesDebt_30 : decode cX2_continuesDebt 30 = .ok (.isub, 1) := by decide +kernel
theorem dX2_continuesDebt_31 : decode cX2_continuesDebt 31 = .ok (.iaload, 1) := by decide +kernel
theorem dX2_continuesDebt_32 : decode cX2_continuesDebt 32 = .ok (.if_icmp .ne 26, 3) := by decide +kernel
theorem dX2_continuesDebt_35 : decode cX2_continuesDebt 35 = .ok (.aload_n 0, 1) := by decide +kernel
theorem dX2_continuesDebt_36 : decode cX2_continuesDebt 36 = .ok (.getfield 15, 3) := by decide +kernel
theorem dX2_continuesDebt_39 : decode cX2_continuesDebt 39 = .ok (.iload_n 1, 1) := by decide +kernel
theorem dX2_continuesDebt_40 : decode cX2_continuesDebt 40 = .ok (.iaload, 1) := by decide +kernel
theorem dX2_continuesDebt_41 : decode cX2_continuesDebt 41 = .ok (.aload_n 0, 1) := by decide +kernel
theorem dX2_continuesDebt_42 : decode cX2_continuesDebt 42 = .ok (.getfield 15, 3) := by decide +kernel
theorem dX2_continuesDebt_45 : decode cX2_continuesDebt 45 = .ok (.iload_n 1, 1) := by decide +kernel
theorem dX2_continuesDebt_46 : decode cX2_continuesDebt 46 = .ok (.iconst 1, 1) := by decide +kernel
theorem dX2_continuesDebt_47 : decode cX2_continuesDebt 47 = .ok (.isub, 1) := by decide +kernel
theorem dX2_continuesDebt_48 : decode cX2_continuesDebt 48 = .ok (.iaload, 1) := by decide +kernel
theorem dX2_continuesDebt_49 : decode cX2_continuesDebt 49 = .ok (.iconst 1, 1) := by decide +kernel
theorem dX2_continuesDebt_50 : decode cX2_continuesDebt 50 = .ok (.iadd, 1) := by decide +kernel
theorem dX2_continuesDebt_51 : decode cX2_continuesDebt 51 = .ok (.if_icmp .ne 7, 3) := by decide +kernel
theorem dX2_continuesDebt_54 : decode cX2_continuesDebt 54 = .ok (.iconst 1, 1) := by decide +kernel
theorem dX2_continuesDebt_55 : decode cX2_continuesDebt 55 = .ok (.goto 4, 3) := by decide +kernel
theorem dX2_continuesDebt_58 : decode cX2_continuesDebt 58 = .ok (.iconst 0, 1) := by decide +kernel
theorem dX2_continuesDebt_59 : decode cX2_continuesDebt 59 = .ok (.ireturn, 1) := by decide +kernel
theorem dX2_startsDebt_0 : decode cX2_startsDebt 0 = .ok (.aload_n 0, 1) := by decide +kernel
theorem dX2_startsDebt_1 : decode cX2_startsDebt 1 = .ok (.iload_n 1, 1) := by decide +kernel
theorem dX2_startsDebt_2 : decode cX2_startsDebt 2 = .ok (.invokevirtual 65, 3) := by decide +kernel
theorem dX2_startsDebt_5 : decode cX2_startsDebt 5 = .ok (.ifCond .eq 15, 3) := by decide +kernel
theorem dX2_startsDebt_8 : decode cX2_startsDebt 8 = .ok (.aload_n 0, 1) := by decide +kernel
theorem dX2_startsDebt_9 : decode cX2_startsDebt 9 = .ok (.iload_n 1, 1) := by decide +kernel
theorem dX2_startsDebt_10 : decode cX2_startsDebt 10 = .ok (.invokevirtual 78, 3) := by decide +kernel
theorem dX2_startsDebt_13 : decode cX2_startsDebt 13 = .ok (.ifCond .ne 7, 3) := by decide +kernel
theorem dX2_startsDebt_16 : decode cX2_startsDebt 16 = .ok (.iconst 1, 1) := by decide +kernel
theorem dX2_startsDebt_17 : decode cX2_startsDebt 17 = .ok (.goto 4, 3) := by decide +kernel
theorem dX2_startsDebt_20 : decode cX2_startsDebt 20 = .ok (.iconst 0, 1) := by decide +kernel
theorem dX2_startsDebt_21 : decode cX2_startsDebt 21 = .ok (.ireturn, 1) := by decide +kernel
theorem dX2_firstOfDebt_0 : decode cX2_firstOfDebt 0 = .ok (.iconst 0, 1) := by decide +kernel
theorem dX2_firstOfDebt_1 : decode cX2_firstOfDebt 1 = .ok (.istore_n 2, 1) := by decide +kernel
theorem dX2_firstOfDebt_2 : decode cX2_firstOfDebt 2 = .ok (.iconst 0, 1) := by decide +kernel
theorem dX2_firstOfDebt_3 : decode cX2_firstOfDebt 3 = .ok (.istore_n 3, 1) := by decide +kernel
theorem dX2_firstOfDebt_4 : decode cX2_firstOfDebt 4 = .ok (.iload_n 3, 1) := by decide +kernel
theorem dX2_firstOfDebt_5 : decode cX2_firstOfDebt 5 = .ok (.aload_n 0, 1) := by decide +kernel
theorem dX2_firstOfDebt_6 : decode cX2_firstOfDebt 6 = .ok (.getfield 40, 3) := by decide +kernel
theorem dX2_firstOfDebt_9 : decode cX2_firstOfDebt 9 = .ok (.if_icmp .ge 27, 3) := by decide +kernel
theorem dX2_firstOfDebt_12 : decode cX2_firstOfDebt 12 = .ok (.aload_n 0, 1) := by decide +kernel
theorem dX2_firstOfDebt_13 : decode cX2_firstOfDebt 13 = .ok (.iload_n 3, 1) := by decide +kernel
theorem dX2_firstOfDebt_14 : decode cX2_firstOfDebt 14 = .ok (.invokevirtual 81, 3) := by decide +kernel
theorem dX2_firstOfDebt_17 : decode cX2_firstOfDebt 17 = .ok (.ifCond .eq 13, 3) := by decide +kernel
theorem dX2_firstOfDebt_20 : decode cX2_firstOfDebt 20 = .ok (.iload_n 2, 1) := by decide +kernel
theorem dX2_firstOfDebt_21 : decode cX2_firstOfDebt 21 = .ok (.iload_n 1, 1) := by decide +kernel
theorem dX2_firstOfDebt_22 : decode cX2_firstOfDebt 22 = .ok (.if_icmp .ne 5, 3) := by decide +kernel
theorem dX2_firstOfDebt_25 : decode cX2_firstOfDebt 25 = .ok (.iload_n 3, 1) := by decide +kernel
theorem dX2_firstOfDebt_26 : decode cX2_firstOfDebt 26 = .ok (.ireturn, 1) := by decide +kernel
theorem dX2_firstOfDebt_27 : decode cX2_firstOfDebt 27 = .ok (.iinc 2 1, 3) := by decide +kernel
theorem dX2_firstOfDebt_30 : decode cX2_firstOfDebt 30 = .ok (.iinc 3 1, 3) := by decide +kernel
theorem dX2_firstOfDebt_33 : decode cX2_firstOfDebt 33 = .ok (.goto (-29), 3) := by decide +kernel
theorem dX2_firstOfDebt_36 : decode cX2_firstOfDebt 36 = .ok (.iconst (-1), 1) := by decide +kernel
theorem dX2_firstOfDebt_37 : decode cX2_firstOfDebt 37 = .ok (.ireturn, 1) := by decide +kernel
theorem dX2_lengthOfDebt_0 : decode cX2_lengthOfDebt 0 = .ok (.iconst 1, 1) := by decide +kernel
theorem dX2_lengthOfDebt_1 : decode cX2_lengthOfDebt 1 = .ok (.istore_n 2, 1) := by decide +kernel
theorem dX2_lengthOfDebt_2 : decode cX2_lengthOfDebt 2 = .ok (.iload_n 2, 1) := by decide +kernel
theorem dX2_lengthOfDebt_3 : decode cX2_lengthOfDebt 3 = .ok (.bipush 96, 2) := by decide +kernel
theorem dX2_lengthOfDebt_5 : decode cX2_lengthOfDebt 5 = .ok (.if_icmp .ge 19, 3) := by decide +kernel
theorem dX2_lengthOfDebt_8 : decode cX2_lengthOfDebt 8 = .ok (.aload_n 0, 1) := by decide +kernel
theorem dX2_lengthOfDebt_9 : decode cX2_lengthOfDebt 9 = .ok (.iload_n 1, 1) := by decide +kernel
theorem dX2_lengthOfDebt_10 : decode cX2_lengthOfDebt 10 = .ok (.iload_n 2, 1) := by decide +kernel
theorem dX2_lengthOfDebt_11 : decode cX2_lengthOfDebt 11 = .ok (.iadd, 1) := by decide +kernel
theorem dX2_lengthOfDebt_12 : decode cX2_lengthOfDebt 12 = .ok (.invokevirtual 78, 3) := by decide +kernel
theorem dX2_lengthOfDebt_15 : decode cX2_lengthOfDebt 15 = .ok (.ifCond .eq 9, 3) := by decide +kernel
theorem dX2_lengthOfDebt_18 : decode cX2_lengthOfDebt 18 = .ok (.iinc 2 1, 3) := by decide +kernel
theorem dX2_lengthOfDebt_21 : decode cX2_lengthOfDebt 21 = .ok (.goto (-19), 3) := by decide +kernel
theorem dX2_lengthOfDebt_24 : decode cX2_lengthOfDebt 24 = .ok (.iload_n 2, 1) := by decide +kernel
theorem dX2_lengthOfDebt_25 : decode cX2_lengthOfDebt 25 = .ok (.ireturn, 1) := by decide +kernel
theorem dX2_endDebt_0 : decode cX2_endDebt 0 = .ok (.aload_n 0, 1) := by decide +kernel
theorem dX2_endDebt_1 : decode cX2_endDebt 1 = .ok (.getfield 15, 3) := by decide +kernel
theorem dX2_endDebt_4 : decode cX2_endDebt 4 = .ok (.iload_n 1, 1) := by decide +kernel
theorem dX2_endDebt_5 : decode cX2_endDebt 5 = .ok (.iconst (-1), 1) := by decide +kernel
theorem dX2_endDebt_6 : decode cX2_endDebt 6 = .ok (.iastore, 1) := by decide +kernel
theorem dX2_endDebt_7 : decode cX2_endDebt 7 = .ok (.aload_n 0, 1) := by decide +kernel
theorem dX2_endDebt_8 : decode cX2_endDebt 8 = .ok (.getfield 18, 3) := by decide +kernel
theorem dX2_endDebt_11 : decode cX2_endDebt 11 = .ok (.iload_n 1, 1) := by decide +kernel
theorem dX2_endDebt_12 : decode cX2_endDebt 12 = .ok (.iconst (-1), 1) := by decide +kernel
theorem dX2_endDebt_13 : decode cX2_endDebt 13 = .ok (.iastore, 1) := by decide +kernel
theorem dX2_endDebt_14 : decode cX2_endDebt 14 = .ok (.return_, 1) := by decide +kernel
theorem dX2_countPayment_0 : decode cX2_countPayment 0 = .ok (.iload_n 1, 1) := by decide +kernel
theorem dX2_countPayment_1 : decode cX2_countPayment 1 = .ok (.lookupswitch 75 #[(1, 27), (2, 51)], 27) := by decide +kernel
theorem dX2_countPayment_28 : decode cX2_countPayment 28 = .ok (.aload_n 0, 1) := by decide +kernel
theorem dX2_countPayment_29 : decode cX2_countPayment 29 = .ok (.getfield 28, 3) := by decide +kernel
theorem dX2_countPayment_32 : decode cX2_countPayment 32 = .ok (.iconst 2, 1) := by decide +kernel
theorem dX2_countPayment_33 : decode cX2_countPayment 33 = .ok (.dup2, 1) := by decide +kernel
theorem dX2_countPayment_34 : decode cX2_countPayment 34 = .ok (.iaload, 1) := by decide +kernel
theorem dX2_countPayment_35 : decode cX2_countPayment 35 = .ok (.iconst 1, 1) := by decide +kernel
theorem dX2_countPayment_36 : decode cX2_countPayment 36 = .ok (.iadd, 1) := by decide +kernel
theorem dX2_countPayment_37 : decode cX2_countPayment 37 = .ok (.iastore, 1) := by decide +kernel
theorem dX2_countPayment_38 : decode cX2_countPayment 38 = .ok (.aload_n 0, 1) := by decide +kernel
theorem dX2_countPayment_39 : decode cX2_countPayment 39 = .ok (.getfield 28, 3) := by decide +kernel
theorem dX2_countPayment_42 : decode cX2_countPayment 42 = .ok (.bipush 7, 2) := by decide +kernel
theorem dX2_countPayment_44 : decode cX2_countPayment 44 = .ok (.dup2, 1) := by decide +kernel
theorem dX2_countPayment_45 : decode cX2_countPayment 45 = .ok (.iaload, 1) := by decide +kernel
theorem dX2_countPayment_46 : decode cX2_countPayment 46 = .ok (.iconst 1, 1) := by decide +kernel
theorem dX2_countPayment_47 : decode cX2_countPayment 47 = .ok (.iadd, 1) := by decide +kernel
theorem dX2_countPayment_48 : decode cX2_countPayment 48 = .ok (.iastore, 1) := by decide +kernel
theorem dX2_countPayment_49 : decode cX2_countPayment 49 = .ok (.goto 48, 3) := by decide +kernel
theorem dX2_countPayment_52 : decode cX2_countPayment 52 = .ok (.aload_n 0, 1) := by decide +kernel
theorem dX2_countPayment_53 : decode cX2_countPayment 53 = .ok (.getfield 28, 3) := by decide +kernel
theorem dX2_countPayment_56 : decode cX2_countPayment 56 = .ok (.iconst 3, 1) := by decide +kernel
theorem dX2_countPayment_57 : decode cX2_countPayment 57 = .ok (.dup2, 1) := by decide +kernel
theorem dX2_countPayment_58 : decode cX2_countPayment 58 = .ok (.iaload, 1) := by decide +kernel
theorem dX2_countPayment_59 : decode cX2_countPayment 59 = .ok (.iconst 1, 1) := by decide +kernel
theorem dX2_countPayment_60 : decode cX2_countPayment 60 = .ok (.iadd, 1) := by decide +kernel
theorem dX2_countPayment_61 : decode cX2_countPayment 61 = .ok (.iastore, 1) := by decide +kernel
theorem dX2_countPayment_62 : decode cX2_countPayment 62 = .ok (.aload_n 0, 1) := by decide +kernel
theorem dX2_countPayment_63 : decode cX2_countPayment 63 = .ok (.getfield 28, 3) := by decide +kernel
theorem dX2_countPayment_66 : decode cX2_countPayment 66 = .ok (.bipush 7, 2) := by decide +kernel
theorem dX2_countPayment_68 : decode cX2_countPayment 68 = .ok (.dup2, 1) := by decide +kernel
theorem dX2_countPayment_69 : decode cX2_countPayment 69 = .ok (.iaload, 1) := by decide +kernel
theorem dX2_countPayment_70 : decode cX2_countPayment 70 = .ok (.iconst 3, 1) := by decide +kernel
theorem dX2_countPayment_71 : decode cX2_countPayment 71 = .ok (.iadd, 1) := by decide +kernel
theorem dX2_countPayment_72 : decode cX2_countPayment 72 = .ok (.iastore, 1) := by decide +kernel
theorem dX2_countPayment_73 : decode cX2_countPayment 73 = .ok (.goto 24, 3) := by decide +kernel
theorem dX2_countPayment_76 : decode cX2_countPayment 76 = .ok (.aload_n 0, 1) := by decide +kernel
theorem dX2_countPayment_77 : decode cX2_countPayment 77 = .ok (.getfield 28, 3) := by decide +kernel
theorem dX2_countPayment_80 : decode cX2_countPayment 80 = .ok (.iconst 4, 1) := by decide +kernel
theorem dX2_countPayment_81 : decode cX2_countPayment 81 = .ok (.dup2, 1) := by decide +kernel
theorem dX2_countPayment_82 : decode cX2_countPayment 82 = .ok (.iaload, 1) := by decide +kernel
theorem dX2_countPayment_83 : decode cX2_countPayment 83 = .ok (.iconst 1, 1) := by decide +kernel
theorem dX2_countPayment_84 : decode cX2_countPayment 84 = .ok (.iadd, 1) := by decide +kernel
theorem dX2_countPayment_85 : decode cX2_countPayment 85 = .ok (.iastore, 1) := by decide +kernel
theorem dX2_countPayment_86 : decode cX2_countPayment 86 = .ok (.aload_n 0, 1) := by decide +kernel
theorem dX2_countPayment_87 : decode cX2_countPayment 87 = .ok (.getfield 28, 3) := by decide +kernel
theorem dX2_countPayment_90 : decode cX2_countPayment 90 = .ok (.bipush 7, 2) := by decide +kernel
theorem dX2_countPayment_92 : decode cX2_countPayment 92 = .ok (.dup2, 1) := by decide +kernel
theorem dX2_countPayment_93 : decode cX2_countPayment 93 = .ok (.iaload, 1) := by decide +kernel
theorem dX2_countPayment_94 : decode cX2_countPayment 94 = .ok (.iconst 2, 1) := by decide +kernel
theorem dX2_countPayment_95 : decode cX2_countPayment 95 = .ok (.iadd, 1) := by decide +kernel
theorem dX2_countPayment_96 : decode cX2_countPayment 96 = .ok (.iastore, 1) := by decide +kernel
theorem dX2_countPayment_97 : decode cX2_countPayment 97 = .ok (.return_, 1) := by decide +kernel
theorem dX2_note_0 : decode cX2_note 0 = .ok (.aload_n 0, 1) := by decide +kernel
theorem dX2_note_1 : decode cX2_note 1 = .ok (.getfield 44, 3) := by decide +kernel
theorem dX2_note_4 : decode cX2_note 4 = .ok (.bipush 80, 2) := by decide +kernel
theorem dX2_note_6 : decode cX2_note 6 = .ok (.if_icmp .lt 4, 3) := by decide +kernel
theorem dX2_note_9 : decode cX2_note 9 = .ok (.return_, 1) := by decide +kernel
theorem dX2_note_10 : decode cX2_note 10 = .ok (.aload_n 0, 1) := by decide +kernel
theorem dX2_note_11 : decode cX2_note 11 = .ok (.getfield 44, 3) := by decide +kernel
theorem dX2_note_14 : decode cX2_note 14 = .ok (.iconst 3, 1) := by decide +kernel
theorem dX2_note_15 : decode cX2_note 15 = .ok (.imul, 1) := by decide +kernel
theorem dX2_note_16 : decode cX2_note 16 = .ok (.istore 4, 2) := by decide +kernel
theorem dX2_note_18 : decode cX2_note 18 = .ok (.aload_n 0, 1) := by decide +kernel
theorem dX2_note_19 : decode cX2_note 19 = .ok (.getfield 31, 3) := by decide +kernel
theorem dX2_note_22 : decode cX2_note 22 = .ok (.iload 4, 2) := by decide +kernel
theorem dX2_note_24 : decode cX2_note 24 = .ok (.iload_n 1, 1) := by decide +kernel
theorem dX2_note_25 : decode cX2_note 25 = .ok (.iastore, 1) := by decide +kernel
theorem dX2_note_26 : decode cX2_note 26 = .ok (.aload_n 0, 1) := by decide +kernel
theorem dX2_note_27 : decode cX2_note 27 = .ok (.getfield 31, 3) := by decide +kernel
theorem dX2_note_30 : decode cX2_note 30 = .ok (.iload 4, 2) := by decide +kernel
theorem dX2_note_32 : decode cX2_note 32 = .ok (.iconst 1, 1) := by decide +kernel
theorem dX2_note_33 : decode cX2_note 33 = .ok (.iadd, 1) := by decide +kernel
theorem dX2_note_34 : decode cX2_note 34 = .ok (.iload_n 2, 1) := by decide +kernel
theorem dX2_note_35 : decode cX2_note 35 = .ok (.iastore, 1) := by decide +kernel
theorem dX2_note_36 : decode cX2_note 36 = .ok (.aload_n 0, 1) := by decide +kernel
theorem dX2_note_37 : decode cX2_note 37 = .ok (.getfield 31, 3) := by decide +kernel
theorem dX2_note_40 : decode cX2_note 40 = .ok (.iload 4, 2) := by decide +kernel
theorem dX2_note_42 : decode cX2_note 42 = .ok (.iconst 2, 1) := by decide +kernel
theorem dX2_note_43 : decode cX2_note 43 = .ok (.iadd, 1) := by decide +kernel
theorem dX2_note_44 : decode cX2_note 44 = .ok (.iload_n 3, 1) := by decide +kernel
theorem dX2_note_45 : decode cX2_note 45 = .ok (.iastore, 1) := by decide +kernel
theorem dX2_note_46 : decode cX2_note 46 = .ok (.aload_n 0, 1) := by decide +kernel
theorem dX2_note_47 : decode cX2_note 47 = .ok (.dup, 1) := by decide +kernel
theorem dX2_note_48 : decode cX2_note 48 = .ok (.getfield 44, 3) := by decide +kernel
theorem dX2_note_51 : decode cX2_note 51 = .ok (.iconst 1, 1) := by decide +kernel
theorem dX2_note_52 : decode cX2_note 52 = .ok (.iadd, 1) := by decide +kernel
theorem dX2_note_53 : decode cX2_note 53 = .ok (.putfield 44, 3) := by decide +kernel
theorem dX2_note_56 : decode cX2_note 56 = .ok (.return_, 1) := by decide +kernel
theorem dX3_init_0 : decode cX3_init 0 = .ok (.aload_n 0, 1) := by decide +kernel
theorem dX3_init_1 : decode cX3_init 1 = .ok (.invokespecial 3, 3) := by decide +kernel
theorem dX3_init_4 : decode cX3_init 4 = .ok (.aload_n 0, 1) := by decide +kernel
theorem dX3_init_5 : decode cX3_init 5 = .ok (.new 9, 3) := by decide +kernel
theorem dX3_init_8 : decode cX3_init 8 = .ok (.dup, 1) := by decide +kernel
theorem dX3_init_9 : decode cX3_init 9 = .ok (.invokespecial 11, 3) := by decide +kernel
theorem dX3_init_12 : decode cX3_init 12 = .ok (.putfield 12, 3) := by decide +kernel
theorem dX3_init_15 : decode cX3_init 15 = .ok (.aload_n 0, 1) := by decide +kernel
theorem dX3_init_16 : decode cX3_init 16 = .ok (.sipush 700, 3) := by decide +kernel
theorem dX3_init_19 : decode cX3_init 19 = .ok (.newarray .int, 2) := by decide +kernel
theorem dX3_init_21 : decode cX3_init 21 = .ok (.putfield 18, 3) := by decide +kernel
theorem dX3_init_24 : decode cX3_init 24 = .ok (.aload_n 0, 1) := by decide +kernel
theorem dX3_init_25 : decode cX3_init 25 = .ok (.iconst (-1), 1) := by decide +kernel
theorem dX3_init_26 : decode cX3_init 26 = .ok (.putfield 22, 3) := by decide +kernel
theorem dX3_init_29 : decode cX3_init 29 = .ok (.return_, 1) := by decide +kernel
theorem dX3_hasRoom_0 : decode cX3_hasRoom 0 = .ok (.aload_n 0, 1) := by decide +kernel
theorem dX3_hasRoom_1 : decode cX3_hasRoom 1 = .ok (.getfield 26, 3) := by decide +kernel
theorem dX3_hasRoom_4 : decode cX3_hasRoom 4 = .ok (.iload_n 1, 1) := by decide +kernel
theorem dX3_hasRoom_5 : decode cX3_hasRoom 5 = .ok (.iadd, 1) := by decide +kernel
theorem dX3_hasRoom_6 : decode cX3_hasRoom 6 = .ok (.sipush 700, 3) := by decide +kernel
theorem dX3_hasRoom_9 : decode cX3_hasRoom 9 = .ok (.if_icmp .gt 7, 3) := by decide +kernel
theorem dX3_hasRoom_12 : decode cX3_hasRoom 12 = .ok (.iconst 1, 1) := by decide +kernel
theorem dX3_hasRoom_13 : decode cX3_hasRoom 13 = .ok (.goto 4, 3) := by decide +kernel
theorem dX3_hasRoom_16 : decode cX3_hasRoom 16 = .ok (.iconst 0, 1) := by decide +kernel
theorem dX3_hasRoom_17 : decode cX3_hasRoom 17 = .ok (.ireturn, 1) := by decide +kernel
theorem dX3_takeWord_0 : decode cX3_takeWord 0 = .ok (.bipush 24, 2) := by decide +kernel
theorem dX3_takeWord_2 : decode cX3_takeWord 2 = .ok (.istore_n 2, 1) := by decide +kernel
theorem dX3_takeWord_3 : decode cX3_takeWord 3 = .ok (.iload_n 2, 1) := by decide +kernel
theorem dX3_takeWord_4 : decode cX3_takeWord 4 = .ok (.ifCond .lt 43, 3) := by decide +kernel
theorem dX3_takeWord_7 : decode cX3_takeWord 7 = .ok (.aload_n 0, 1) := by decide +kernel
theorem dX3_takeWord_8 : decode cX3_takeWord 8 = .ok (.iconst 1, 1) := by decide +kernel
theorem dX3_takeWord_9 : decode cX3_takeWord 9 = .ok (.invokevirtual 29, 3) := by decide +kernel
theorem dX3_takeWord_12 : decode cX3_takeWord 12 = .ok (.ifCond .eq 29, 3) := by decide +kernel
theorem dX3_takeWord_15 : decode cX3_takeWord 15 = .ok (.aload_n 0, 1) := by decide +kernel
theorem dX3_takeWord_16 : decode cX3_takeWord 16 = .ok (.getfield 18, 3) := by decide +kernel
theorem dX3_takeWord_19 : decode cX3_takeWord 19 = .ok (.aload_n 0, 1) := by decide +kernel
theorem dX3_takeWord_20 : decode cX3_takeWord 20 = .ok (.getfield 26, 3) := by decide +kernel
theorem dX3_takeWord_23 : decode cX3_takeWord 23 = .ok (.iload_n 1, 1) := by decide +kernel
theorem dX3_takeWord_24 : decode cX3_takeWord 24 = .ok (.iload_n 2, 1) := by decide +kernel
theorem dX3_takeWord_25 : decode cX3_takeWord 25 = .ok (.iushr, 1) := by decide +kernel
theorem dX3_takeWord_26 : decode cX3_takeWord 26 = .ok (.sipush 255, 3) := by decide +kernel
theorem dX3_takeWord_29 : decode cX3_takeWord 29 = .ok (.iand, 1) := by decide +kernel
theorem dX3_takeWord_30 : decode cX3_takeWord 30 = .ok (.iastore, 1) := by decide +kernel
theorem dX3_takeWord_31 : decode cX3_takeWord 31 = .ok (.aload_n 0, 1) := by decide +kernel
theorem dX3_takeWord_32 : decode cX3_takeWord 32 = .ok (.dup, 1) := by decide +kernel
theorem dX3_takeWord_33 : decode cX3_takeWord 33 = .ok (.getfield 26, 3) := by decide +kernel
theorem dX3_takeWord_36 : decode cX3_takeWord 36 = .ok (.iconst 1, 1) := by decide +kernel
theorem dX3_takeWord_37 : decode cX3_takeWord 37 = .ok (.iadd, 1) := by decide +kernel
theorem dX3_takeWord_38 : decode cX3_takeWord 38 = .ok (.putfield 26, 3) := by decide +kernel
theorem dX3_takeWord_41 : decode cX3_takeWord 41 = .ok (.iinc 2 (-8), 3) := by decide +kernel
theorem dX3_takeWord_44 : decode cX3_takeWord 44 = .ok (.goto (-41), 3) := by decide +kernel
theorem dX3_takeWord_47 : decode cX3_takeWord 47 = .ok (.return_, 1) := by decide +kernel
theorem dX3_parse_0 : decode cX3_parse 0 = .ok (.aload_n 0, 1) := by decide +kernel
theorem dX3_parse_1 : decode cX3_parse 1 = .ok (.iload_n 1, 1) := by decide +kernel
theorem dX3_parse_2 : decode cX3_parse 2 = .ok (.invokevirtual 33, 3) := by decide +kernel
theorem dX3_parse_5 : decode cX3_parse 5 = .ok (.aload_n 0, 1) := by decide +kernel
theorem dX3_parse_6 : decode cX3_parse 6 = .ok (.invokevirtual 37, 3) := by decide +kernel
theorem dX3_parse_9 : decode cX3_parse 9 = .ok (.iconst 0, 1) := by decide +kernel
theorem dX3_parse_10 : decode cX3_parse 10 = .ok (.istore_n 2, 1) := by decide +kernel
theorem dX3_parse_11 : decode cX3_parse 11 = .ok (.iload_n 2, 1) := by decide +kernel
theorem dX3_parse_12 : decode cX3_parse 12 = .ok (.sipush 700, 3) := by decide +kernel
theorem dX3_parse_15 : decode cX3_parse 15 = .ok (.if_icmp .ge 143, 3) := by decide +kernel
theorem dX3_parse_18 : decode cX3_parse 18 = .ok (.aload_n 0, 1) := by decide +kernel
theorem dX3_parse_19 : decode cX3_parse 19 = .ok (.getfield 40, 3) := by decide +kernel
theorem dX3_parse_22 : decode cX3_parse 22 = .ok (.ifCond .ne 136, 3) := by decide +kernel
theorem dX3_parse_25 : decode cX3_parse 25 = .ok (.aload_n 0, 1) := by decide +kernel
theorem dX3_parse_26 : decode cX3_parse 26 = .ok (.getfield 43, 3) := by decide +kernel
theorem dX3_parse_29 : decode cX3_parse 29 = .ok (.ifCond .eq 129, 3) := by decide +kernel
theorem dX3_parse_32 : decode cX3_parse 32 = .ok (.aload_n 0, 1) := by decide +kernel
theorem dX3_parse_33 : decode cX3_parse 33 = .ok (.getfield 43, 3) := by decide +kernel
theorem dX3_parse_36 : decode cX3_parse 36 = .ok (.iconst 3, 1) := by decide +kernel
theorem dX3_parse_37 : decode cX3_parse 37 = .ok (.if_icmp .eq 8, 3) := by decide +kernel
theorem dX3_parse_40 : decode cX3_parse 40 = .ok (.aload_n 0, 1) := by decide +kernel
theorem dX3_parse_41 : decode cX3_parse 41 = .ok (.iconst 1, 1) := by decide +kernel
theorem dX3_parse_42 : decode cX3_parse 42 = .ok (.invokevirtual 46, 3) := by decide +kernel
theorem dX3_parse_45 : decode cX3_parse 45 = .ok (.aload_n 0, 1) := by decide +kernel
theorem dX3_parse_46 : decode cX3_parse 46 = .ok (.invokevirtual 49, 3) := by decide +kernel
theorem dX3_parse_49 : decode cX3_parse 49 = .ok (.aload_n 0, 1) := by decide +kernel
theorem dX3_parse_50 : decode cX3_parse 50 = .ok (.ldc 52, 2) := by decide +kernel
theorem dX3_parse_52 : decode cX3_parse 52 = .ok (.invokevirtual 54, 3) := by decide +kernel
theorem dX3_parse_55 : decode cX3_parse 55 = .ok (.ifCond .eq 10, 3) := by decide +kernel
theorem dX3_parse_58 : decode cX3_parse 58 = .ok (.aload_n 0, 1) := by decide +kernel
theorem dX3_parse_59 : decode cX3_parse 59 = .ok (.invokevirtual 58, 3) := by decide +kernel
theorem dX3_parse_62 : decode cX3_parse 62 = .ok (.goto 90, 3) := by decide +kernel
theorem dX3_parse_65 : decode cX3_parse 65 = .ok (.aload_n 0, 1) := by decide +kernel
theorem dX3_parse_66 : decode cX3_parse 66 = .ok (.ldc 61, 2) := by decide +kernel
theorem dX3_parse_68 : decode cX3_parse 68 = .ok (.invokevirtual 54, 3) := by decide +kernel
theorem dX3_parse_71 : decode cX3_parse 71 = .ok (.ifCond .eq 10, 3) := by decide +kernel
theorem dX3_parse_74 : decode cX3_parse 74 = .ok (.aload_n 0, 1) := by decide +kernel
theorem dX3_parse_75 : decode cX3_parse 75 = .ok (.invokevirtual 63, 3) := by decide +kernel
theorem dX3_parse_78 : decode cX3_parse 78 = .ok (.goto 74, 3) := by decide +kernel
theorem dX3_parse_81 : decode cX3_parse 81 = .ok (.aload_n 0, 1) := by decide +kernel
theorem dX3_parse_82 : decode cX3_parse 82 = .ok (.ldc 66, 2) := by decide +kernel
theorem dX3_parse_84 : decode cX3_parse 84 = .ok (.invokevirtual 54, 3) := by decide +kernel
theorem dX3_parse_87 : decode cX3_parse 87 = .ok (.ifCond .eq 10, 3) := by decide +kernel
theorem dX3_parse_90 : decode cX3_parse 90 = .ok (.aload_n 0, 1) := by decide +kernel
theorem dX3_parse_91 : decode cX3_parse 91 = .ok (.invokevirtual 68, 3) := by decide +kernel
theorem dX3_parse_94 : decode cX3_parse 94 = .ok (.goto 58, 3) := by decide +kernel
theorem dX3_parse_97 : decode cX3_parse 97 = .ok (.aload_n 0, 1) := by decide +kernel
theorem dX3_parse_98 : decode cX3_parse 98 = .ok (.ldc 71, 2) := by decide +kernel
theorem dX3_parse_100 : decode cX3_parse 100 = .ok (.invokevirtual 54, 3) := by decide +kernel
theorem dX3_parse_103 : decode cX3_parse 103 = .ok (.ifCond .eq 10, 3) := by decide +kernel
theorem dX3_parse_106 : decode cX3_parse 106 = .ok (.aload_n 0, 1) := by decide +kernel
theorem dX3_parse_107 : decode cX3_parse 107 = .ok (.invokevirtual 73, 3) := by decide +kernel
theorem dX3_parse_110 : decode cX3_parse 110 = .ok (.goto 42, 3) := by decide +kernel
theorem dX3_parse_113 : decode cX3_parse 113 = .ok (.aload_n 0, 1) := by decide +kernel
theorem dX3_parse_114 : decode cX3_parse 114 = .ok (.ldc 76, 2) := by decide +kernel
theorem dX3_parse_116 : decode cX3_parse 116 = .ok (.invokevirtual 54, 3) := by decide +kernel
theorem dX3_parse_119 : decode cX3_parse 119 = .ok (.ifCond .eq 11, 3) := by decide +kernel
theorem dX3_parse_122 : decode cX3_parse 122 = .ok (.aload_n 0, 1) := by decide +kernel
theorem dX3_parse_123 : decode cX3_parse 123 = .ok (.iconst 3, 1) := by decide +kernel
theorem dX3_parse_124 : decode cX3_parse 124 = .ok (.invokevirtual 78, 3) := by decide +kernel
theorem dX3_parse_127 : decode cX3_parse 127 = .ok (.goto 25, 3) := by decide +kernel
theorem dX3_parse_130 : decode cX3_parse 130 = .ok (.aload_n 0, 1) := by decide +kernel
theorem dX3_parse_131 : decode cX3_parse 131 = .ok (.ldc 81, 2) := by decide +kernel
theorem dX3_parse_133 : decode cX3_parse 133 = .ok (.invokevirtual 54, 3) := by decide +kernel
theorem dX3_parse_136 : decode cX3_parse 136 = .ok (.ifCond .eq 11, 3) := by decide +kernel
theorem dX3_parse_139 : decode cX3_parse 139 = .ok (.aload_n 0, 1) := by decide +kernel
theorem dX3_parse_140 : decode cX3_parse 140 = .ok (.iconst 4, 1) := by decide +kernel
theorem dX3_parse_141 : decode cX3_parse 141 = .ok (.invokevirtual 78, 3) := by decide +kernel
theorem dX3_parse_144 : decode cX3_parse 144 = .ok (.goto 8, 3) := by decide +kernel
theorem dX3_parse_147 : decode cX3_parse 147 = .ok (.aload_n 0, 1) := by decide +kernel
theorem dX3_parse_148 : decode cX3_parse 148 = .ok (.iconst 1, 1) := by decide +kernel
theorem dX3_parse_149 : decode cX3_parse 149 = .ok (.invokevirtual 46, 3) := by decide +kernel
theorem dX3_parse_152 : decode cX3_parse 152 = .ok (.iinc 2 1, 3) := by decide +kernel
theorem dX3_parse_155 : decode cX3_parse 155 = .ok (.goto (-144), 3) := by decide +kernel
theorem dX3_parse_158 : decode cX3_parse 158 = .ok (.aload_n 0, 1) := by decide +kernel
theorem dX3_parse_159 : decode cX3_parse 159 = .ok (.getfield 40, 3) := by decide +kernel
theorem dX3_parse_162 : decode cX3_parse 162 = .ok (.ifCond .ne 7, 3) := by decide +kernel
theorem dX3_parse_165 : decode cX3_parse 165 = .ok (.iconst 1, 1) := by decide +kernel
theorem dX3_parse_166 : decode cX3_parse 166 = .ok (.goto 4, 3) := by decide +kernel
theorem dX3_parse_169 : decode cX3_parse 169 = .ok (.iconst 0, 1) := by decide +kernel
theorem dX3_parse_170 : decode cX3_parse 170 = .ok (.ireturn, 1) := by decide +kernel
theorem dX3_startText_0 : decode cX3_startText 0 = .ok (.aload_n 0, 1) := by decide +kernel
theorem dX3_startText_1 : decode cX3_startText 1 = .ok (.iload_n 1, 1) := by decide +kernel
theorem dX3_startText_2 : decode cX3_startText 2 = .ok (.aload_n 0, 1) := by decide +kernel
theorem dX3_startText_3 : decode cX3_startText 3 = .ok (.getfield 26, 3) := by decide +kernel
theorem dX3_startText_6 : decode cX3_startText 6 = .ok (.invokestatic 83, 3) := by decide +kernel
theorem dX3_startText_9 : decode cX3_startText 9 = .ok (.putfield 89, 3) := by decide +kernel
theorem dX3_startText_12 : decode cX3_startText 12 = .ok (.aload_n 0, 1) := by decide +kernel
theorem dX3_startText_13 : decode cX3_startText 13 = .ok (.iconst 0, 1) := by decide +kernel
theorem dX3_startText_14 : decode cX3_startText 14 = .ok (.putfield 26, 3) := by decide +kernel
theorem dX3_startText_17 : decode cX3_startText 17 = .ok (.aload_n 0, 1) := by decide +kernel
theorem dX3_startText_18 : decode cX3_startText 18 = .ok (.iconst 0, 1) := by decide +kernel
theorem dX3_startText_19 : decode cX3_startText 19 = .ok (.putfield 40, 3) := by decide +kernel
theorem dX3_startText_22 : decode cX3_startText 22 = .ok (.aload_n 0, 1) := by decide +kernel
theorem dX3_startText_23 : decode cX3_startText 23 = .ok (.iconst (-1), 1) := by decide +kernel
theorem dX3_startText_24 : decode cX3_startText 24 = .ok (.putfield 22, 3) := by decide +kernel
theorem dX3_startText_27 : decode cX3_startText 27 = .ok (.aload_n 0, 1) := by decide +kernel
theorem dX3_startText_28 : decode cX3_startText 28 = .ok (.iconst 0, 1) := by decide +kernel
theorem dX3_startText_29 : decode cX3_startText 29 = .ok (.putfield 92, 3) := by decide +kernel
theorem dX3_startText_32 : decode cX3_startText 32 = .ok (.aload_n 0, 1) := by decide +kernel
theorem dX3_startText_33 : decode cX3_startText 33 = .ok (.iconst 0, 1) := by decide +kernel
theorem dX3_startText_34 : decode cX3_startText 34 = .ok (.putfield 95, 3) := by decide +kernel
theorem dX3_startText_37 : decode cX3_startText 37 = .ok (.aload_n 0, 1) := by decide +kernel
theorem dX3_startText_38 : decode cX3_startText 38 = .ok (.iconst 0, 1) := by decide +kernel
theorem dX3_startText_39 : decode cX3_startText 39 = .ok (.putfield 98, 3) := by decide +kernel
theorem dX3_startText_42 : decode cX3_startText 42 = .ok (.aload_n 0, 1) := by decide +kernel
theorem dX3_startText_43 : decode cX3_startText 43 = .ok (.iconst 0, 1) := by decide +kernel
theorem dX3_startText_44 : decode cX3_startText 44 = .ok (.putfield 101, 3) := by decide +kernel
theorem dX3_startText_47 : decode cX3_startText 47 = .ok (.aload_n 0, 1) := by decide +kernel
theorem dX3_startText_48 : decode cX3_startText 48 = .ok (.iconst 0, 1) := by decide +kernel
theorem dX3_startText_49 : decode cX3_startText 49 = .ok (.putfield 104, 3) := by decide +kernel
theorem dX3_startText_52 : decode cX3_startText 52 = .ok (.aload_n 0, 1) := by decide +kernel
theorem dX3_startText_53 : decode cX3_startText 53 = .ok (.getfield 12, 3) := by decide +kernel
theorem dX3_startText_56 : decode cX3_startText 56 = .ok (.getfield 107, 3) := by decide +kernel
theorem dX3_startText_59 : decode cX3_startText 59 = .ok (.invokevirtual 111, 3) := by decide +kernel
theorem dX3_startText_62 : decode cX3_startText 62 = .ok (.return_, 1) := by decide +kernel
theorem dX3_readHeader_0 : decode cX3_readHeader 0 = .ok (.aload_n 0, 1) := by decide +kernel
theorem dX3_readHeader_1 : decode cX3_readHeader 1 = .ok (.getfield 12, 3) := by decide +kernel
theorem dX3_readHeader_4 : decode cX3_readHeader 4 = .ok (.getfield 107, 3) := by decide +kernel
theorem dX3_readHeader_7 : decode cX3_readHeader 7 = .ok (.astore_n 1, 1) := by decide +kernel
theorem dX3_readHeader_8 : decode cX3_readHeader 8 = .ok (.aload_n 1, 1) := by decide +kernel
theorem dX3_readHeader_9 : decode cX3_readHeader 9 = .ok (.aload_n 0, 1) := by decide +kernel
theorem dX3_readHeader_10 : decode cX3_readHeader 10 = .ok (.ldc 116, 2) := by decide +kernel
theorem dX3_readHeader_12 : decode cX3_readHeader 12 = .ok (.iconst 1, 1) := by decide +kernel
theorem dX3_readHeader_13 : decode cX3_readHeader 13 = .ok (.bipush 96, 2) := by decide +kernel
theorem dX3_readHeader_15 : decode cX3_readHeader 15 = .ok (.invokevirtual 117, 3) := by decide +kernel
theorem dX3_readHeader_18 : decode cX3_readHeader 18 = .ok (.putfield 121, 3) := by decide +kernel
theorem dX3_readHeader_21 : decode cX3_readHeader 21 = .ok (.aload_n 1, 1) := by decide +kernel
theorem dX3_readHeader_22 : decode cX3_readHeader 22 = .ok (.getfield 124, 3) := by decide +kernel
theorem dX3_readHeader_25 : decode cX3_readHeader 25 = .ok (.iconst 0, 1) := by decide +kernel
theorem dX3_readHeader_26 : decode cX3_readHeader 26 = .ok (.aload_n 0, 1) := by decide +kernel
theorem dX3_readHeader_27 : decode cX3_readHeader 27 = .ok (.ldc 127, 2) := by decide +kernel
theorem dX3_readHeader_29 : decode cX3_readHeader 29 = .ok (.iconst 1, 1) := by decide +kernel
theorem dX3_readHeader_30 : decode cX3_readHeader 30 = .ok (.bipush 20, 2) := by decide +kernel
theorem dX3_readHeader_32 : decode cX3_readHeader 32 = .ok (.invokevirtual 117, 3) := by decide +kernel
theorem dX3_readHeader_35 : decode cX3_readHeader 35 = .ok (.iastore, 1) := by decide +kernel
theorem dX3_readHeader_36 : decode cX3_readHeader 36 = .ok (.aload_n 1, 1) := by decide +kernel
theorem dX3_readHeader_37 : decode cX3_readHeader 37 = .ok (.getfield 124, 3) := by decide +kernel
theorem dX3_readHeader_40 : decode cX3_readHeader 40 = .ok (.iconst 1, 1) := by decide +kernel
theorem dX3_readHeader_41 : decode cX3_readHeader 41 = .ok (.aload_n 0, 1) := by decide +kernel
theorem dX3_readHeader_42 : decode cX3_readHeader 42 = .ok (.ldc 129, 2) := by decide +kernel
theorem dX3_readHeader_44 : decode cX3_readHeader 44 = .ok (.iconst 0, 1) := by decide +kernel
theorem dX3_readHeader_45 : decode cX3_readHeader 45 = .ok (.bipush 96, 2) := by decide +kernel
theorem dX3_readHeader_47 : decode cX3_readHeader 47 = .ok (.invokevirtual 117, 3) := by decide +kernel
theorem dX3_readHeader_50 : decode cX3_readHeader 50 = .ok (.iastore, 1) := by decide +kernel
theorem dX3_readHeader_51 : decode cX3_readHeader 51 = .ok (.aload_n 1, 1) := by decide +kernel
theorem dX3_readHeader_52 : decode cX3_readHeader 52 = .ok (.getfield 124, 3) := by decide +kernel
theorem dX3_readHeader_55 : decode cX3_readHeader 55 = .ok (.iconst 2, 1) := by decide +kernel
theorem dX3_readHeader_56 : decode cX3_readHeader 56 = .ok (.aload_n 0, 1) := by decide +kernel
theorem dX3_readHeader_57 : decode cX3_readHeader 57 = .ok (.ldc 131, 2) := by decide +kernel
theorem dX3_readHeader_59 : decode cX3_readHeader 59 = .ok (.iconst 0, 1) := by decide +kernel
theorem dX3_readHeader_60 : decode cX3_readHeader 60 = .ok (.iconst 3, 1) := by decide +kernel
theorem dX3_readHeader_61 : decode cX3_readHeader 61 = .ok (.invokevirtual 117, 3) := by decide +kernel
theorem dX3_readHeader_64 : decode cX3_readHeader 64 = .ok (.iastore, 1) := by decide +kernel
theorem dX3_readHeader_65 : decode cX3_readHeader 65 = .ok (.aload_n 0, 1) := by decide +kernel
theorem dX3_readHeader_66 : decode cX3_readHeader 66 = .ok (.invokevirtual 49, 3) := by decide +kernel
theorem dX3_readHeader_69 : decode cX3_readHeader 69 = .ok (.return_, 1) := by decide +kernel
theorem dX3_readNamed_0 : decode cX3_readNamed 0 = .ok (.aload_n 0, 1) := by decide +kernel
theorem dX3_readNamed_1 : decode cX3_readNamed 1 = .ok (.invokevirtual 49, 3) := by decide +kernel
theorem dX3_readNamed_4 : decode cX3_readNamed 4 = .ok (.aload_n 0, 1) := by decide +kernel
theorem dX3_readNamed_5 : decode cX3_readNamed 5 = .ok (.aload_n 1, 1) := by decide +kernel
theorem dX3_readNamed_6 : decode cX3_readNamed 6 = .ok (.invokevirtual 54, 3) := by decide +kernel
theorem dX3_readNamed_9 : decode cX3_readNamed 9 = .ok (.ifCond .ne 8, 3) := by decide +kernel
theorem dX3_readNamed_12 : decode cX3_readNamed 12 = .ok (.aload_n 0, 1) := by decide +kernel
theorem dX3_readNamed_13 : decode cX3_readNamed 13 = .ok (.iconst 1, 1) := by decide +kernel
theorem dX3_readNamed_14 : decode cX3_readNamed 14 = .ok (.invokevirtual 46, 3) := by decide +kernel
theorem dX3_readNamed_17 : decode cX3_readNamed 17 = .ok (.aload_n 0, 1) := by decide +kernel
theorem dX3_readNamed_18 : decode cX3_readNamed 18 = .ok (.iload_n 2, 1) := by decide +kernel
theorem dX3_readNamed_19 : decode cX3_readNamed 19 = .ok (.iload_n 3, 1) := by decide +kernel
theorem dX3_readNamed_20 : decode cX3_readNamed 20 = .ok (.invokevirtual 133, 3) := by decide +kernel
theorem dX3_readNamed_23 : decode cX3_readNamed 23 = .ok (.ireturn, 1) := by decide +kernel
theorem dX3_readNumber_0 : decode cX3_readNumber 0 = .ok (.aload_n 0, 1) := by decide +kernel
theorem dX3_readNumber_1 : decode cX3_readNumber 1 = .ok (.invokevirtual 49, 3) := by decide +kernel
theorem dX3_readNumber_4 : decode cX3_readNumber 4 = .ok (.aload_n 0, 1) := by decide +kernel
theorem dX3_readNumber_5 : decode cX3_readNumber 5 = .ok (.getfield 43, 3) := by decide +kernel
theorem dX3_readNumber_8 : decode cX3_readNumber 8 = .ok (.iconst 2, 1) := by decide +kernel
theorem dX3_readNumber_9 : decode cX3_readNumber 9 = .ok (.if_icmp .eq 11, 3) := by decide +kernel
theorem dX3_readNumber_12 : decode cX3_readNumber 12 = .ok (.aload_n 0, 1) := by decide +kernel
theorem dX3_readNumber_13 : decode cX3_readNumber 13 = .ok (.iconst 1, 1) := by decide +kernel
theorem dX3_readNumber_14 : decode cX3_readNumber 14 = .ok (.invokevirtual 46, 3) := by decide +kernel
theorem dX3_readNumber_17 : decode cX3_readNumber 17 = .ok (.goto 24, 3) := by decide +kernel
theorem dX3_readNumber_20 : decode cX3_readNumber 20 = .ok (.aload_n 0, 1) := by decide +kernel
theorem dX3_readNumber_21 : decode cX3_readNumber 21 = .ok (.getfield 136, 3) := by decide +kernel
theorem dX3_readNumber_24 : decode cX3_readNumber 24 = .ok (.iload_n 1, 1) := by decide +kernel
theorem dX3_readNumber_25 : decode cX3_readNumber 25 = .ok (.if_icmp .lt 11, 3) := by decide +kernel
theorem dX3_readNumber_28 : decode cX3_readNumber 28 = .ok (.aload_n 0, 1) := by decide +kernel
theorem dX3_readNumber_29 : decode cX3_readNumber 29 = .ok (.getfield 136, 3) := by decide +kernel
theorem dX3_readNumber_32 : decode cX3_readNumber 32 = .ok (.iload_n 2, 1) := by decide +kernel
theorem dX3_readNumber_33 : decode cX3_readNumber 33 = .ok (.if_icmp .le 8, 3) := by decide +kernel
theorem dX3_readNumber_36 : decode cX3_readNumber 36 = .ok (.aload_n 0, 1) := by decide +kernel
theorem dX3_readNumber_37 : decode cX3_readNumber 37 = .ok (.iconst 2, 1) := by decide +kernel
theorem dX3_readNumber_38 : decode cX3_readNumber 38 = .ok (.invokevirtual 46, 3) := by decide +kernel
theorem dX3_readNumber_41 : decode cX3_readNumber 41 = .ok (.aload_n 0, 1) := by decide +kernel
theorem dX3_readNumber_42 : decode cX3_readNumber 42 = .ok (.getfield 40, 3) := by decide +kernel
theorem dX3_readNumber_45 : decode cX3_readNumber 45 = .ok (.ifCond .ne 10, 3) := by decide +kernel
theorem dX3_readNumber_48 : decode cX3_readNumber 48 = .ok (.aload_n 0, 1) := by decide +kernel
theorem dX3_readNumber_49 : decode cX3_readNumber 49 = .ok (.getfield 136, 3) := by decide +kernel
theorem dX3_readNumber_52 : decode cX3_readNumber 52 = .ok (.goto 4, 3) := by decide +kernel
theorem dX3_readNumber_55 : decode cX3_readNumber 55 = .ok (.iload_n 1, 1) := by decide +kernel
theorem dX3_readNumber_56 : decode cX3_readNumber 56 = .ok (.ireturn, 1) := by decide +kernel
theorem dX3_readPlace_0 : decode cX3_readPlace 0 = .ok (.aload_n 0, 1) := by decide +kernel
theorem dX3_readPlace_1 : decode cX3_readPlace 1 = .ok (.iload_n 1, 1) := by decide +kernel
theorem dX3_readPlace_2 : decode cX3_readPlace 2 = .ok (.aload_n 0, 1) := by decide +kernel
theorem dX3_readPlace_3 : decode cX3_readPlace 3 = .ok (.getfield 12, 3) := by decide +kernel
theorem dX3_readPlace_6 : decode cX3_readPlace 6 = .ok (.getfield 107, 3) := by decide +kernel
theorem dX3_readPlace_9 : decode cX3_readPlace 9 = .ok (.getfield 121, 3) := by decide +kernel
theorem dX3_readPlace_12 : decode cX3_readPlace 12 = .ok (.iconst 1, 1) := by decide +kernel
theorem dX3_readPlace_13 : decode cX3_readPlace 13 = .ok (.isub, 1) := by decide +kernel
theorem dX3_readPlace_14 : decode cX3_readPlace 14 = .ok (.invokevirtual 133, 3) := by decide +kernel
theorem dX3_readPlace_17 : decode cX3_readPlace 17 = .ok (.ireturn, 1) := by decide +kernel
theorem dX3_readPut_0 : decode cX3_readPut 0 = .ok (.aload_n 0, 1) := by decide +kernel
theorem dX3_readPut_1 : decode cX3_readPut 1 = .ok (.dup, 1) := by decide +kernel
theorem dX3_readPut_2 : decode cX3_readPut 2 = .ok (.getfield 95, 3) := by decide +kernel
theorem dX3_readPut_5 : decode cX3_readPut 5 = .ok (.iconst 1, 1) := by decide +kernel
theorem dX3_readPut_6 : decode cX3_readPut 6 = .ok (.iadd, 1) := by decide +kernel
theorem dX3_readPut_7 : decode cX3_readPut 7 = .ok (.putfield 95, 3) := by decide +kernel
theorem dX3_readPut_10 : decode cX3_readPut 10 = .ok (.aload_n 0, 1) := by decide +kernel
theorem dX3_readPut_11 : decode cX3_readPut 11 = .ok (.getfield 101, 3) := by decide +kernel
theorem dX3_readPut_14 : decode cX3_readPut 14 = .ok (.ifCond .le 11, 3) := by decide +kernel
theorem dX3_readPut_17 : decode cX3_readPut 17 = .ok (.aload_n 0, 1) := by decide +kernel
theorem dX3_readPut_18 : decode cX3_readPut 18 = .ok (.iconst 1, 1) := by decide +kernel
theorem dX3_readPut_19 : decode cX3_readPut 19 = .ok (.invokevirtual 46, 3) := by decide +kernel
theorem dX3_readPut_22 : decode cX3_readPut 22 = .ok (.goto 17, 3) := by decide +kernel
theorem dX3_readPut_25 : decode cX3_readPut 25 = .ok (.aload_n 0, 1) := by decide +kernel
theorem dX3_readPut_26 : decode cX3_readPut 26 = .ok (.getfield 95, 3) := by decide +kernel
theorem dX3_readPut_29 : decode cX3_readPut 29 = .ok (.bipush 20, 2) := by decide +kernel
theorem dX3_readPut_31 : decode cX3_readPut 31 = .ok (.if_icmp .le 8, 3) := by decide +kernel
theorem dX3_readPut_34 : decode cX3_readPut 34 = .ok (.aload_n 0, 1) := by decide +kernel
theorem dX3_readPut_35 : decode cX3_readPut 35 = .ok (.iconst 4, 1) := by decide +kernel
theorem dX3_readPut_36 : decode cX3_readPut 36 = .ok (.invokevirtual 46, 3) := by decide +kernel
theorem dX3_readPut_39 : decode cX3_readPut 39 = .ok (.aload_n 0, 1) := by decide +kernel
theorem dX3_readPut_40 : decode cX3_readPut 40 = .ok (.iconst 0, 1) := by decide +kernel
theorem dX3_readPut_41 : decode cX3_readPut 41 = .ok (.invokevirtual 139, 3) := by decide +kernel
theorem dX3_readPut_44 : decode cX3_readPut 44 = .ok (.istore_n 1, 1) := by decide +kernel
theorem dX3_readPut_45 : decode cX3_readPut 45 = .ok (.aload_n 0, 1) := by decide +kernel
theorem dX3_readPut_46 : decode cX3_readPut 46 = .ok (.iload_n 1, 1) := by decide +kernel
theorem dX3_readPut_47 : decode cX3_readPut 47 = .ok (.aload_n 0, 1) := by decide +kernel
theorem dX3_readPut_48 : decode cX3_readPut 48 = .ok (.iconst 0, 1) := by decide +kernel
theorem dX3_readPut_49 : decode cX3_readPut 49 = .ok (.sipush 255, 3) := by decide +kernel
theorem dX3_readPut_52 : decode cX3_readPut 52 = .ok (.invokevirtual 133, 3) := by decide +kernel
theorem dX3_readPut_55 : decode cX3_readPut 55 = .ok (.invokevirtual 143, 3) := by decide +kernel
theorem dX3_readPut_58 : decode cX3_readPut 58 = .ok (.aload_n 0, 1) := by decide +kernel
theorem dX3_readPut_59 : decode cX3_readPut 59 = .ok (.invokevirtual 49, 3) := by decide +kernel
theorem dX3_readPut_62 : decode cX3_readPut 62 = .ok (.iconst 1, 1) := by decide +kernel
theorem dX3_readPut_63 : decode cX3_readPut 63 = .ok (.istore_n 2, 1) := by decide +kernel
theorem dX3_readPut_64 : decode cX3_readPut 64 = .ok (.iload_n 2, 1) := by decide +kernel
theorem dX3_readPut_65 : decode cX3_readPut 65 = .ok (.sipush 700, 3) := by decide +kernel
theorem dX3_readPut_68 : decode cX3_readPut 68 = .ok (.if_icmp .ge 54, 3) := by decide +kernel
theorem dX3_readPut_71 : decode cX3_readPut 71 = .ok (.aload_n 0, 1) := by decide +kernel
theorem dX3_readPut_72 : decode cX3_readPut 72 = .ok (.getfield 40, 3) := by decide +kernel
theorem dX3_readPut_75 : decode cX3_readPut 75 = .ok (.ifCond .ne 47, 3) := by decide +kernel
theorem dX3_readPut_78 : decode cX3_readPut 78 = .ok (.aload_n 0, 1) := by decide +kernel
theorem dX3_readPut_79 : decode cX3_readPut 79 = .ok (.getfield 43, 3) := by decide +kernel
theorem dX3_readPut_82 : decode cX3_readPut 82 = .ok (.iconst 2, 1) := by decide +kernel
theorem dX3_readPut_83 : decode cX3_readPut 83 = .ok (.if_icmp .ne 39, 3) := by decide +kernel
theorem dX3_readPut_86 : decode cX3_readPut 86 = .ok (.aload_n 0, 1) := by decide +kernel
theorem dX3_readPut_87 : decode cX3_readPut 87 = .ok (.getfield 136, 3) := by decide +kernel
theorem dX3_readPut_90 : decode cX3_readPut 90 = .ok (.sipush 255, 3) := by decide +kernel
theorem dX3_readPut_93 : decode cX3_readPut 93 = .ok (.if_icmp .le 8, 3) := by decide +kernel
theorem dX3_readPut_96 : decode cX3_readPut 96 = .ok (.aload_n 0, 1) := by decide +kernel
theorem dX3_readPut_97 : decode cX3_readPut 97 = .ok (.iconst 2, 1) := by decide +kernel
theorem dX3_readPut_98 : decode cX3_readPut 98 = .ok (.invokevirtual 46, 3) := by decide +kernel
theorem dX3_readPut_101 : decode cX3_readPut 101 = .ok (.aload_n 0, 1) := by decide +kernel
theorem dX3_readPut_102 : decode cX3_readPut 102 = .ok (.iload_n 1, 1) := by decide +kernel
theorem dX3_readPut_103 : decode cX3_readPut 103 = .ok (.iload_n 2, 1) := by decide +kernel
theorem dX3_readPut_104 : decode cX3_readPut 104 = .ok (.iadd, 1) := by decide +kernel
theorem dX3_readPut_105 : decode cX3_readPut 105 = .ok (.aload_n 0, 1) := by decide +kernel
theorem dX3_readPut_106 : decode cX3_readPut 106 = .ok (.getfield 136, 3) := by decide +kernel
theorem dX3_readPut_109 : decode cX3_readPut 109 = .ok (.invokevirtual 143, 3) := by decide +kernel
theorem dX3_readPut_112 : decode cX3_readPut 112 = .ok (.aload_n 0, 1) := by decide +kernel
theorem dX3_readPut_113 : decode cX3_readPut 113 = .ok (.invokevirtual 49, 3) := by decide +kernel
theorem dX3_readPut_116 : decode cX3_readPut 116 = .ok (.iinc 2 1, 3) := by decide +kernel
theorem dX3_readPut_119 : decode cX3_readPut 119 = .ok (.goto (-55), 3) := by decide +kernel
theorem dX3_readPut_122 : decode cX3_readPut 122 = .ok (.return_, 1) := by decide +kernel
theorem dX3_putByte_0 : decode cX3_putByte 0 = .ok (.aload_n 0, 1) := by decide +kernel
theorem dX3_putByte_1 : decode cX3_putByte 1 = .ok (.getfield 12, 3) := by decide +kernel
theorem dX3_putByte_4 : decode cX3_putByte 4 = .ok (.getfield 107, 3) := by decide +kernel
theorem dX3_putByte_7 : decode cX3_putByte 7 = .ok (.iload_n 1, 1) := by decide +kernel
theorem dX3_putByte_8 : decode cX3_putByte 8 = .ok (.invokevirtual 147, 3) := by decide +kernel
theorem dX3_putByte_11 : decode cX3_putByte 11 = .ok (.ifCond .ne 8, 3) := by decide +kernel
theorem dX3_putByte_14 : decode cX3_putByte 14 = .ok (.aload_n 0, 1) := by decide +kernel
theorem dX3_putByte_15 : decode cX3_putByte 15 = .ok (.iconst 2, 1) := by decide +kernel
theorem dX3_putByte_16 : decode cX3_putByte 16 = .ok (.invokevirtual 46, 3) := by decide +kernel
theorem dX3_putByte_19 : decode cX3_putByte 19 = .ok (.aload_n 0, 1) := by decide +kernel
theorem dX3_putByte_20 : decode cX3_putByte 20 = .ok (.getfield 40, 3) := by decide +kernel
theorem dX3_putByte_23 : decode cX3_putByte 23 = .ok (.ifCond .ne 16, 3) := by decide +kernel
theorem dX3_putByte_26 : decode cX3_putByte 26 = .ok (.aload_n 0, 1) := by decide +kernel
theorem dX3_putByte_27 : decode cX3_putByte 27 = .ok (.getfield 12, 3) := by decide +kernel
theorem dX3_putByte_30 : decode cX3_putByte 30 = .ok (.getfield 107, 3) := by decide +kernel
theorem dX3_putByte_33 : decode cX3_putByte 33 = .ok (.getfield 150, 3) := by decide +kernel
theorem dX3_putByte_36 : decode cX3_putByte 36 = .ok (.iload_n 1, 1) := by decide +kernel
theorem dX3_putByte_37 : decode cX3_putByte 37 = .ok (.iload_n 2, 1) := by decide +kernel
theorem dX3_putByte_38 : decode cX3_putByte 38 = .ok (.iastore, 1) := by decide +kernel
theorem dX3_putByte_39 : decode cX3_putByte 39 = .ok (.return_, 1) := by decide +kernel
theorem dX3_readLock_0 : decode cX3_readLock 0 = .ok (.aload_n 0, 1) := by decide +kernel
theorem dX3_readLock_1 : decode cX3_readLock 1 = .ok (.dup, 1) := by decide +kernel
theorem dX3_readLock_2 : decode cX3_readLock 2 = .ok (.getfield 98, 3) := by decide +kernel
theorem dX3_readLock_5 : decode cX3_readLock 5 = .ok (.iconst 1, 1) := by decide +kernel
theorem dX3_readLock_6 : decode cX3_readLock 6 = .ok (.iadd, 1) := by decide +kernel
theorem dX3_readLock_7 : decode cX3_readLock 7 = .ok (.putfield 98, 3) := by decide +kernel
theorem dX3_readLock_10 : decode cX3_readLock 10 = .ok (.aload_n 0, 1) := by decide +kernel
theorem dX3_readLock_11 : decode cX3_readLock 11 = .ok (.getfield 98, 3) := by decide +kernel
theorem dX3_readLock_14 : decode cX3_readLock 14 = .ok (.bipush 6, 2) := by decide +kernel
theorem dX3_readLock_16 : decode cX3_readLock 16 = .ok (.if_icmp .le 8, 3) := by decide +kernel
theorem dX3_readLock_19 : decode cX3_readLock 19 = .ok (.aload_n 0, 1) := by decide +kernel
theorem dX3_readLock_20 : decode cX3_readLock 20 = .ok (.iconst 4, 1) := by decide +kernel
theorem dX3_readLock_21 : decode cX3_readLock 21 = .ok (.invokevirtual 46, 3) := by decide +kernel
theorem dX3_readLock_24 : decode cX3_readLock 24 = .ok (.aload_n 0, 1) := by decide +kernel
theorem dX3_readLock_25 : decode cX3_readLock 25 = .ok (.iconst 0, 1) := by decide +kernel
theorem dX3_readLock_26 : decode cX3_readLock 26 = .ok (.invokevirtual 139, 3) := by decide +kernel
theorem dX3_readLock_29 : decode cX3_readLock 29 = .ok (.istore_n 1, 1) := by decide +kernel
theorem dX3_readLock_30 : decode cX3_readLock 30 = .ok (.aload_n 0, 1) := by decide +kernel
theorem dX3_readLock_31 : decode cX3_readLock 31 = .ok (.iload_n 1, 1) := by decide +kernel
theorem dX3_readLock_32 : decode cX3_readLock 32 = .ok (.invokevirtual 139, 3) := by decide +kernel
theorem dX3_readLock_35 : decode cX3_readLock 35 = .ok (.istore_n 2, 1) := by decide +kernel
theorem dX3_readLock_36 : decode cX3_readLock 36 = .ok (.aload_n 0, 1) := by decide +kernel
theorem dX3_readLock_37 : decode cX3_readLock 37 = .ok (.getfield 40, 3) := by decide +kernel
theorem dX3_readLock_40 : decode cX3_readLock 40 = .ok (.ifCond .ne 13, 3) := by decide +kernel
theorem dX3_readLock_43 : decode cX3_readLock 43 = .ok (.aload_n 0, 1) := by decide +kernel
theorem dX3_readLock_44 : decode cX3_readLock 44 = .ok (.getfield 12, 3) := by decide +kernel
theorem dX3_readLock_47 : decode cX3_readLock 47 = .ok (.iload_n 1, 1) := by decide +kernel
theorem dX3_readLock_48 : decode cX3_readLock 48 = .ok (.iload_n 2, 1) := by decide +kernel
theorem dX3_readLock_49 : decode cX3_readLock 49 = .ok (.invokevirtual 153, 3) := by decide +kernel
theorem dX3_readLock_52 : decode cX3_readLock 52 = .ok (.pop, 1) := by decide +kernel
theorem dX3_readLock_53 : decode cX3_readLock 53 = .ok (.aload_n 0, 1) := by decide +kernel
theorem dX3_readLock_54 : decode cX3_readLock 54 = .ok (.invokevirtual 49, 3) := by decide +kernel
theorem dX3_readLock_57 : decode cX3_readLock 57 = .ok (.return_, 1) := by decide +kernel
theorem dX3_readCopy_0 : decode cX3_readCopy 0 = .ok (.aload_n 0, 1) := by decide +kernel
theorem dX3_readCopy_1 : decode cX3_readCopy 1 = .ok (.dup, 1) := by decide +kernel
theorem dX3_readCopy_2 : decode cX3_readCopy 2 = .ok (.getfield 101, 3) := by decide +kernel
theorem dX3_readCopy_5 : decode cX3_readCopy 5 = .ok (.iconst 1, 1) := by decide +kernel
theorem dX3_readCopy_6 : decode cX3_readCopy 6 = .ok (.iadd, 1) := by decide +kernel
theorem dX3_readCopy_7 : decode cX3_readCopy 7 = .ok (.putfield 101, 3) := by decide +kernel
theorem dX3_readCopy_10 : decode cX3_readCopy 10 = .ok (.aload_n 0, 1) := by decide +kernel
theorem dX3_readCopy_11 : decode cX3_readCopy 11 = .ok (.getfield 101, 3) := by decide +kernel
theorem dX3_readCopy_14 : decode cX3_readCopy 14 = .ok (.bipush 20, 2) := by decide +kernel
theorem dX3_readCopy_16 : decode cX3_readCopy 16 = .ok (.if_icmp .le 8, 3) := by decide +kernel
theorem dX3_readCopy_19 : decode cX3_readCopy 19 = .ok (.aload_n 0, 1) := by decide +kernel
theorem dX3_readCopy_20 : decode cX3_readCopy 20 = .ok (.iconst 4, 1) := by decide +kernel
theorem dX3_readCopy_21 : decode cX3_readCopy 21 = .ok (.invokevirtual 46, 3) := by decide +kernel
theorem dX3_readCopy_24 : decode cX3_readCopy 24 = .ok (.aload_n 0, 1) := by decide +kernel
theorem dX3_readCopy_25 : decode cX3_readCopy 25 = .ok (.iconst 0, 1) := by decide +kernel
theorem dX3_readCopy_26 : decode cX3_readCopy 26 = .ok (.invokevirtual 139, 3) := by decide +kernel
theorem dX3_readCopy_29 : decode cX3_readCopy 29 = .ok (.istore_n 1, 1) := by decide +kernel
theorem dX3_readCopy_30 : decode cX3_readCopy 30 = .ok (.aload_n 0, 1) := by decide +kernel
theorem dX3_readCopy_31 : decode cX3_readCopy 31 = .ok (.iconst 0, 1) := by decide +kernel
theorem dX3_readCopy_32 : decode cX3_readCopy 32 = .ok (.invokevirtual 139, 3) := by decide +kernel
theorem dX3_readCopy_35 : decode cX3_readCopy 35 = .ok (.istore_n 2, 1) := by decide +kernel
theorem dX3_readCopy_36 : decode cX3_readCopy 36 = .ok (.aload_n 0, 1) := by decide +kernel
theorem dX3_readCopy_37 : decode cX3_readCopy 37 = .ok (.iconst 1, 1) := by decide +kernel
theorem dX3_readCopy_38 : decode cX3_readCopy 38 = .ok (.aload_n 0, 1) := by decide +kernel
theorem dX3_readCopy_39 : decode cX3_readCopy 39 = .ok (.getfield 12, 3) := by decide +kernel
theorem dX3_readCopy_42 : decode cX3_readCopy 42 = .ok (.getfield 107, 3) := by decide +kernel
theorem dX3_readCopy_45 : decode cX3_readCopy 45 = .ok (.getfield 121, 3) := by decide +kernel
theorem dX3_readCopy_48 : decode cX3_readCopy 48 = .ok (.invokevirtual 133, 3) := by decide +kernel
theorem dX3_readCopy_51 : decode cX3_readCopy 51 = .ok (.istore_n 3, 1) := by decide +kernel
theorem dX3_readCopy_52 : decode cX3_readCopy 52 = .ok (.aload_n 0, 1) := by decide +kernel
theorem dX3_readCopy_53 : decode cX3_readCopy 53 = .ok (.getfield 12, 3) := by decide +kernel
theorem dX3_readCopy_56 : decode cX3_readCopy 56 = .ok (.getfield 107, 3) := by decide +kernel
theorem dX3_readCopy_59 : decode cX3_readCopy 59 = .ok (.iload_n 1, 1) := by decide +kernel
theorem dX3_readCopy_60 : decode cX3_readCopy 60 = .ok (.iload_n 2, 1) := by decide +kernel
theorem dX3_readCopy_61 : decode cX3_readCopy 61 = .ok (.iload_n 3, 1) := by decide +kernel
theorem dX3_readCopy_62 : decode cX3_readCopy 62 = .ok (.invokevirtual 156, 3) := by decide +kernel
theorem dX3_readCopy_65 : decode cX3_readCopy 65 = .ok (.ifCond .eq 8, 3) := by decide +kernel
theorem dX3_readCopy_68 : decode cX3_readCopy 68 = .ok (.aload_n 0, 1) := by decide +kernel
theorem dX3_readCopy_69 : decode cX3_readCopy 69 = .ok (.iconst 3, 1) := by decide +kernel
theorem dX3_readCopy_70 : decode cX3_readCopy 70 = .ok (.invokevirtual 46, 3) := by decide +kernel
theorem dX3_readCopy_73 : decode cX3_readCopy 73 = .ok (.aload_n 0, 1) := by decide +kernel
theorem dX3_readCopy_74 : decode cX3_readCopy 74 = .ok (.getfield 40, 3) := by decide +kernel
theorem dX3_readCopy_77 : decode cX3_readCopy 77 = .ok (.ifCond .ne 14, 3) := by decide +kernel
theorem dX3_readCopy_80 : decode cX3_readCopy 80 = .ok (.aload_n 0, 1) := by decide +kernel
theorem dX3_readCopy_81 : decode cX3_readCopy 81 = .ok (.getfield 12, 3) := by decide +kernel
theorem dX3_readCopy_84 : decode cX3_readCopy 84 = .ok (.iload_n 1, 1) := by decide +kernel
theorem dX3_readCopy_85 : decode cX3_readCopy 85 = .ok (.iload_n 2, 1) := by decide +kernel
theorem dX3_readCopy_86 : decode cX3_readCopy 86 = .ok (.iload_n 3, 1) := by decide +kernel
theorem dX3_readCopy_87 : decode cX3_readCopy 87 = .ok (.invokevirtual 160, 3) := by decide +kernel
theorem dX3_readCopy_90 : decode cX3_readCopy 90 = .ok (.pop, 1) := by decide +kernel
theorem dX3_readCopy_91 : decode cX3_readCopy 91 = .ok (.aload_n 0, 1) := by decide +kernel
theorem dX3_readCopy_92 : decode cX3_readCopy 92 = .ok (.invokevirtual 49, 3) := by decide +kernel
theorem dX3_readCopy_95 : decode cX3_readCopy 95 = .ok (.return_, 1) := by decide +kernel
theorem dX3_readFill_0 : decode cX3_readFill 0 = .ok (.aload_n 0, 1) := by decide +kernel
theorem dX3_readFill_1 : decode cX3_readFill 1 = .ok (.dup, 1) := by decide +kernel
theorem dX3_readFill_2 : decode cX3_readFill 2 = .ok (.getfield 104, 3) := by decide +kernel
theorem dX3_readFill_5 : decode cX3_readFill 5 = .ok (.iconst 1, 1) := by decide +kernel
theorem dX3_readFill_6 : decode cX3_readFill 6 = .ok (.iadd, 1) := by decide +kernel
theorem dX3_readFill_7 : decode cX3_readFill 7 = .ok (.putfield 104, 3) := by decide +kernel
theorem dX3_readFill_10 : decode cX3_readFill 10 = .ok (.aload_n 0, 1) := by decide +kernel
theorem dX3_readFill_11 : decode cX3_readFill 11 = .ok (.getfield 104, 3) := by decide +kernel
theorem dX3_readFill_14 : decode cX3_readFill 14 = .ok (.bipush 6, 2) := by decide +kernel
theorem dX3_readFill_16 : decode cX3_readFill 16 = .ok (.if_icmp .le 8, 3) := by decide +kernel
theorem dX3_readFill_19 : decode cX3_readFill 19 = .ok (.aload_n 0, 1) := by decide +kernel
theorem dX3_readFill_20 : decode cX3_readFill 20 = .ok (.iconst 4, 1) := by decide +kernel
theorem dX3_readFill_21 : decode cX3_readFill 21 = .ok (.invokevirtual 46, 3) := by decide +kernel
theorem dX3_readFill_24 : decode cX3_readFill 24 = .ok (.aload_n 0, 1) := by decide +kernel
theorem dX3_readFill_25 : decode cX3_readFill 25 = .ok (.iconst 0, 1) := by decide +kernel
theorem dX3_readFill_26 : decode cX3_readFill 26 = .ok (.invokevirtual 139, 3) := by decide +kernel
theorem dX3_readFill_29 : decode cX3_readFill 29 = .ok (.istore_n 1, 1) := by decide +kernel
theorem dX3_readFill_30 : decode cX3_readFill 30 = .ok (.aload_n 0, 1) := by decide +kernel
theorem dX3_readFill_31 : decode cX3_readFill 31 = .ok (.iload_n 1, 1) := by decide +kernel
theorem dX3_readFill_32 : decode cX3_readFill 32 = .ok (.invokevirtual 139, 3) := by decide +kernel
theorem dX3_readFill_35 : decode cX3_readFill 35 = .ok (.istore_n 2, 1) := by decide +kernel
theorem dX3_readFill_36 : decode cX3_readFill 36 = .ok (.aload_n 0, 1) := by decide +kernel
theorem dX3_readFill_37 : decode cX3_readFill 37 = .ok (.iconst 0, 1) := by decide +kernel
theorem dX3_readFill_38 : decode cX3_readFill 38 = .ok (.sipush 255, 3) := by decide +kernel
theorem dX3_readFill_41 : decode cX3_readFill 41 = .ok (.invokevirtual 133, 3) := by decide +kernel
theorem dX3_readFill_44 : decode cX3_readFill 44 = .ok (.istore_n 3, 1) := by decide +kernel
theorem dX3_readFill_45 : decode cX3_readFill 45 = .ok (.aload_n 0, 1) := by decide +kernel
theorem dX3_readFill_46 : decode cX3_readFill 46 = .ok (.getfield 12, 3) := by decide +kernel
theorem dX3_readFill_49 : decode cX3_readFill 49 = .ok (.getfield 107, 3) := by decide +kernel
theorem dX3_readFill_52 : decode cX3_readFill 52 = .ok (.iload_n 1, 1) := by decide +kernel
theorem dX3_readFill_53 : decode cX3_readFill 53 = .ok (.iload_n 2, 1) := by decide +kernel
theorem dX3_readFill_54 : decode cX3_readFill 54 = .ok (.invokevirtual 163, 3) := by decide +kernel
theorem dX3_readFill_57 : decode cX3_readFill 57 = .ok (.ifCond .eq 8, 3) := by decide +kernel
theorem dX3_readFill_60 : decode cX3_readFill 60 = .ok (.aload_n 0, 1) := by decide +kernel
theorem dX3_readFill_61 : decode cX3_readFill 61 = .ok (.iconst 3, 1) := by decide +kernel
theorem dX3_readFill_62 : decode cX3_readFill 62 = .ok (.invokevirtual 46, 3) := by decide +kernel
theorem dX3_readFill_65 : decode cX3_readFill 65 = .ok (.aload_n 0, 1) := by decide +kernel
theorem dX3_readFill_66 : decode cX3_readFill 66 = .ok (.getfield 40, 3) := by decide +kernel
theorem dX3_readFill_69 : decode cX3_readFill 69 = .ok (.ifCond .ne 14, 3) := by decide +kernel
theorem dX3_readFill_72 : decode cX3_readFill 72 = .ok (.aload_n 0, 1) := by decide +kernel
theorem dX3_readFill_73 : decode cX3_readFill 73 = .ok (.getfield 12, 3) := by decide +kernel
theorem dX3_readFill_76 : decode cX3_readFill 76 = .ok (.iload_n 1, 1) := by decide +kernel
theorem dX3_readFill_77 : decode cX3_readFill 77 = .ok (.iload_n 2, 1) := by decide +kernel
theorem dX3_readFill_78 : decode cX3_readFill 78 = .ok (.iload_n 3, 1) := by decide +kernel
theorem dX3_readFill_79 : decode cX3_readFill 79 = .ok (.invokevirtual 167, 3) := by decide +kernel
theorem dX3_readFill_82 : decode cX3_readFill 82 = .ok (.pop, 1) := by decide +kernel
theorem dX3_readFill_83 : decode cX3_readFill 83 = .ok (.aload_n 0, 1) := by decide +kernel
theorem dX3_readFill_84 : decode cX3_readFill 84 = .ok (.invokevirtual 49, 3) := by decide +kernel
theorem dX3_readFill_87 : decode cX3_readFill 87 = .ok (.return_, 1) := by decide +kernel
theorem dX3_readRule_0 : decode cX3_readRule 0 = .ok (.aload_n 0, 1) := by decide +kernel
theorem dX3_readRule_1 : decode cX3_readRule 1 = .ok (.getfield 12, 3) := by decide +kernel
theorem dX3_readRule_4 : decode cX3_readRule 4 = .ok (.getfield 107, 3) := by decide +kernel
theorem dX3_readRule_7 : decode cX3_readRule 7 = .ok (.getfield 124, 3) := by decide +kernel
theorem dX3_readRule_10 : decode cX3_readRule 10 = .ok (.iload_n 1, 1) := by decide +kernel
theorem dX3_readRule_11 : decode cX3_readRule 11 = .ok (.iaload, 1) := by decide +kernel
theorem dX3_readRule_12 : decode cX3_readRule 12 = .ok (.iconst 1, 1) := by decide +kernel
theorem dX3_readRule_13 : decode cX3_readRule 13 = .ok (.if_icmp .ne 8, 3) := by decide +kernel
theorem dX3_readRule_16 : decode cX3_readRule 16 = .ok (.aload_n 0, 1) := by decide +kernel
theorem dX3_readRule_17 : decode cX3_readRule 17 = .ok (.iconst 3, 1) := by decide +kernel
theorem dX3_readRule_18 : decode cX3_readRule 18 = .ok (.invokevirtual 46, 3) := by decide +kernel
theorem dX3_readRule_21 : decode cX3_readRule 21 = .ok (.aload_n 0, 1) := by decide +kernel
theorem dX3_readRule_22 : decode cX3_readRule 22 = .ok (.getfield 12, 3) := by decide +kernel
theorem dX3_readRule_25 : decode cX3_readRule 25 = .ok (.getfield 107, 3) := by decide +kernel
theorem dX3_readRule_28 : decode cX3_readRule 28 = .ok (.getfield 124, 3) := by decide +kernel
theorem dX3_readRule_31 : decode cX3_readRule 31 = .ok (.iload_n 1, 1) := by decide +kernel
theorem dX3_readRule_32 : decode cX3_readRule 32 = .ok (.iconst 1, 1) := by decide +kernel
theorem dX3_readRule_33 : decode cX3_readRule 33 = .ok (.iastore, 1) := by decide +kernel
theorem dX3_readRule_34 : decode cX3_readRule 34 = .ok (.aload_n 0, 1) := by decide +kernel
theorem dX3_readRule_35 : decode cX3_readRule 35 = .ok (.invokevirtual 49, 3) := by decide +kernel
theorem dX3_readRule_38 : decode cX3_readRule 38 = .ok (.return_, 1) := by decide +kernel
theorem dX3_fail_0 : decode cX3_fail 0 = .ok (.aload_n 0, 1) := by decide +kernel
theorem dX3_fail_1 : decode cX3_fail 1 = .ok (.getfield 40, 3) := by decide +kernel
theorem dX3_fail_4 : decode cX3_fail 4 = .ok (.ifCond .ne 16, 3) := by decide +kernel
theorem dX3_fail_7 : decode cX3_fail 7 = .ok (.aload_n 0, 1) := by decide +kernel
theorem dX3_fail_8 : decode cX3_fail 8 = .ok (.iload_n 1, 1) := by decide +kernel
theorem dX3_fail_9 : decode cX3_fail 9 = .ok (.putfield 40, 3) := by decide +kernel
theorem dX3_fail_12 : decode cX3_fail 12 = .ok (.aload_n 0, 1) := by decide +kernel
theorem dX3_fail_13 : decode cX3_fail 13 = .ok (.aload_n 0, 1) := by decide +kernel
theorem dX3_fail_14 : decode cX3_fail 14 = .ok (.getfield 170, 3) := by decide +kernel
theorem dX3_fail_17 : decode cX3_fail 17 = .ok (.putfield 22, 3) := by decide +kernel
theorem dX3_fail_20 : decode cX3_fail 20 = .ok (.return_, 1) := by decide +kernel
theorem dX3_advance_0 : decode cX3_advance 0 = .ok (.aload_n 0, 1) := by decide +kernel
theorem dX3_advance_1 : decode cX3_advance 1 = .ok (.getfield 40, 3) := by decide +kernel
theorem dX3_advance_4 : decode cX3_advance 4 = .ok (.ifCond .eq 4, 3) := by decide +kernel
theorem dX3_advance_7 : decode cX3_advance 7 = .ok (.return_, 1) := by decide +kernel
theorem dX3_advance_8 : decode cX3_advance 8 = .ok (.aload_n 0, 1) := by decide +kernel
theorem dX3_advance_9 : decode cX3_advance 9 = .ok (.aload_n 0, 1) := by decide +kernel
theorem dX3_advance_10 : decode cX3_advance 10 = .ok (.getfield 92, 3) := by decide +kernel
theorem dX3_advance_13 : decode cX3_advance 13 = .ok (.putfield 170, 3) := by decide +kernel
theorem dX3_advance_16 : decode cX3_advance 16 = .ok (.aload_n 0, 1) := by decide +kernel
theorem dX3_advance_17 : decode cX3_advance 17 = .ok (.getfield 170, 3) := by decide +kernel
theorem dX3_advance_20 : decode cX3_advance 20 = .ok (.aload_n 0, 1) := by decide +kernel
theorem dX3_advance_21 : decode cX3_advance 21 = .ok (.getfield 89, 3) := by decide +kernel
theorem dX3_advance_24 : decode cX3_advance 24 = .ok (.if_icmp .ge 30, 3) := by decide +kernel
theorem dX3_advance_27 : decode cX3_advance 27 = .ok (.aload_n 0, 1) := by decide +kernel
theorem dX3_advance_28 : decode cX3_advance 28 = .ok (.getfield 18, 3) := by decide +kernel
theorem dX3_advance_31 : decode cX3_advance 31 = .ok (.aload_n 0, 1) := by decide +kernel
theorem dX3_advance_32 : decode cX3_advance 32 = .ok (.getfield 170, 3) := by decide +kernel
theorem dX3_advance_35 : decode cX3_advance 35 = .ok (.iaload, 1) := by decide +kernel
theorem dX3_advance_36 : decode cX3_advance 36 = .ok (.bipush 32, 2) := by decide +kernel
theorem dX3_advance_38 : decode cX3_advance 38 = .ok (.if_icmp .ne 16, 3) := by decide +kernel
theorem dX3_advance_41 : decode cX3_advance 41 = .ok (.aload_n 0, 1) := by decide +kernel
theorem dX3_advance_42 : decode cX3_advance 42 = .ok (.dup, 1) := by decide +kernel
theorem dX3_advance_43 : decode cX3_advance 43 = .ok (.getfield 170, 3) := by decide +kernel
theorem dX3_advance_46 : decode cX3_advance 46 = .ok (.iconst 1, 1) := by decide +kernel
theorem dX3_advance_47 : decode cX3_advance 47 = .ok (.iadd, 1) := by decide +kernel
theorem dX3_advance_48 : decode cX3_advance 48 = .ok (.putfield 170, 3) := by decide +kernel
theorem dX3_advance_51 : decode cX3_advance 51 = .ok (.goto (-35), 3) := by decide +kernel
theorem dX3_advance_54 : decode cX3_advance 54 = .ok (.aload_n 0, 1) := by decide +kernel
theorem dX3_advance_55 : decode cX3_advance 55 = .ok (.aload_n 0, 1) := by decide +kernel
theorem dX3_advance_56 : decode cX3_advance 56 = .ok (.getfield 170, 3) := by decide +kernel
theorem dX3_advance_59 : decode cX3_advance 59 = .ok (.putfield 92, 3) := by decide +kernel
theorem dX3_advance_62 : decode cX3_advance 62 = .ok (.aload_n 0, 1) := by decide +kernel
theorem dX3_advance_63 : decode cX3_advance 63 = .ok (.getfield 170, 3) := by decide +kernel
theorem dX3_advance_66 : decode cX3_advance 66 = .ok (.aload_n 0, 1) := by decide +kernel
theorem dX3_advance_67 : decode cX3_advance 67 = .ok (.getfield 89, 3) := by decide +kernel
theorem dX3_advance_70 : decode cX3_advance 70 = .ok (.if_icmp .lt 11, 3) := by decide +kernel
theorem dX3_advance_73 : decode cX3_advance 73 = .ok (.aload_n 0, 1) := by decide +kernel
theorem dX3_advance_74 : decode cX3_advance 74 = .ok (.iconst 0, 1) := by decide +kernel
theorem dX3_advance_75 : decode cX3_advance 75 = .ok (.putfield 43, 3) := by decide +kernel
theorem dX3_advance_78 : decode cX3_advance 78 = .ok (.goto 212, 3) := by decide +kernel
theorem dX3_advance_81 : decode cX3_advance 81 = .ok (.aload_n 0, 1) := by decide +kernel
theorem dX3_advance_82 : decode cX3_advance 82 = .ok (.getfield 18, 3) := by decide +kernel
theorem dX3_advance_85 : decode cX3_advance 85 = .ok (.aload_n 0, 1) := by decide +kernel
theorem dX3_advance_86 : decode cX3_advance 86 = .ok (.getfield 170, 3) := by decide +kernel
theorem dX3_advance_89 : decode cX3_advance 89 = .ok (.iaload, 1) := by decide +kernel
theorem dX3_advance_90 : decode cX3_advance 90 = .ok (.bipush 59, 2) := by decide +kernel
theorem dX3_advance_92 : decode cX3_advance 92 = .ok (.if_icmp .ne 21, 3) := by decide +kernel
theorem dX3_advance_95 : decode cX3_advance 95 = .ok (.aload_n 0, 1) := by decide +kernel
theorem dX3_advance_96 : decode cX3_advance 96 = .ok (.iconst 3, 1) := by decide +kernel
theorem dX3_advance_97 : decode cX3_advance 97 = .ok (.putfield 43, 3) := by decide +kernel
theorem dX3_advance_100 : decode cX3_advance 100 = .ok (.aload_n 0, 1) := by decide +kernel
theorem dX3_advance_101 : decode cX3_advance 101 = .ok (.aload_n 0, 1) := by decide +kernel
theorem dX3_advance_102 : decode cX3_advance 102 = .ok (.getfield 170, 3) := by decide +kernel
theorem dX3_advance_105 : decode cX3_advance 105 = .ok (.iconst 1, 1) := by decide +kernel
theorem dX3_advance_106 : decode cX3_advance 106 = .ok (.iadd, 1) := by decide +kernel
theorem dX3_advance_107 : decode cX3_advance 107 = .ok (.putfield 92, 3) := by decide +kernel
theorem dX3_advance_110 : decode cX3_advance 110 = .ok (.goto 180, 3) := by decide +kernel
theorem dX3_advance_113 : decode cX3_advance 113 = .ok (.aload_n 0, 1) := by decide +kernel
theorem dX3_advance_114 : decode cX3_advance 114 = .ok (.aload_n 0, 1) := by decide +kernel
theorem dX3_advance_115 : decode cX3_advance 115 = .ok (.getfield 170, 3) := by decide +kernel
theorem dX3_advance_118 : decode cX3_advance 118 = .ok (.invokevirtual 173, 3) := by decide +kernel
theorem dX3_advance_121 : decode cX3_advance 121 = .ok (.ifCond .eq 64, 3) := by decide +kernel
theorem dX3_advance_124 : decode cX3_advance 124 = .ok (.aload_n 0, 1) := by decide +kernel
theorem dX3_advance_125 : decode cX3_advance 125 = .ok (.getfield 92, 3) := by decide +kernel
theorem dX3_advance_128 : decode cX3_advance 128 = .ok (.aload_n 0, 1) := by decide +kernel
theorem dX3_advance_129 : decode cX3_advance 129 = .ok (.getfield 89, 3) := by decide +kernel
theorem dX3_advance_132 : decode cX3_advance 132 = .ok (.if_icmp .ge 27, 3) := by decide +kernel
theorem dX3_advance_135 : decode cX3_advance 135 = .ok (.aload_n 0, 1) := by decide +kernel
theorem dX3_advance_136 : decode cX3_advance 136 = .ok (.aload_n 0, 1) := by decide +kernel
theorem dX3_advance_137 : decode cX3_advance 137 = .ok (.getfield 92, 3) := by decide +kernel
theorem dX3_advance_140 : decode cX3_advance 140 = .ok (.invokevirtual 173, 3) := by decide +kernel
theorem dX3_advance_143 : decode cX3_advance 143 = .ok (.ifCond .eq 16, 3) := by decide +kernel
theorem dX3_advance_146 : decode cX3_advance 146 = .ok (.aload_n 0, 1) := by decide +kernel
theorem dX3_advance_147 : decode cX3_advance 147 = .ok (.dup, 1) := by decide +kernel
theorem dX3_advance_148 : decode cX3_advance 148 = .ok (.getfield 92, 3) := by decide +kernel
theorem dX3_advance_151 : decode cX3_advance 151 = .ok (.iconst 1, 1) := by decide +kernel
theorem dX3_advance_152 : decode cX3_advance 152 = .ok (.iadd, 1) := by decide +kernel
theorem dX3_advance_153 : decode cX3_advance 153 = .ok (.putfield 92, 3) := by decide +kernel
theorem dX3_advance_156 : decode cX3_advance 156 = .ok (.goto (-32), 3) := by decide +kernel
theorem dX3_advance_159 : decode cX3_advance 159 = .ok (.aload_n 0, 1) := by decide +kernel
theorem dX3_advance_160 : decode cX3_advance 160 = .ok (.aload_n 0, 1) := by decide +kernel
theorem dX3_advance_161 : decode cX3_advance 161 = .ok (.getfield 92, 3) := by decide +kernel
theorem dX3_advance_164 : decode cX3_advance 164 = .ok (.aload_n 0, 1) := by decide +kernel
theorem dX3_advance_165 : decode cX3_advance 165 = .ok (.getfield 170, 3) := by decide +kernel
theorem dX3_advance_168 : decode cX3_advance 168 = .ok (.isub, 1) := by decide +kernel
theorem dX3_advance_169 : decode cX3_advance 169 = .ok (.bipush 8, 2) := by decide +kernel
theorem dX3_advance_171 : decode cX3_advance 171 = .ok (.if_icmp .le 7, 3) := by decide +kernel
theorem dX3_advance_174 : decode cX3_advance 174 = .ok (.iconst 4, 1) := by decide +kernel
theorem dX3_advance_175 : decode cX3_advance 175 = .ok (.goto 4, 3) := by decide +kernel
theorem dX3_advance_178 : decode cX3_advance 178 = .ok (.iconst 1, 1) := by decide +kernel
theorem dX3_advance_179 : decode cX3_advance 179 = .ok (.putfield 43, 3) := by decide +kernel
theorem dX3_advance_182 : decode cX3_advance 182 = .ok (.goto 108, 3) := by decide +kernel
theorem dX3_advance_185 : decode cX3_advance 185 = .ok (.aload_n 0, 1) := by decide +kernel
theorem dX3_advance_186 : decode cX3_advance 186 = .ok (.aload_n 0, 1) := by decide +kernel
theorem dX3_advance_187 : decode cX3_advance 187 = .ok (.getfield 170, 3) := by decide +kernel
theorem dX3_advance_190 : decode cX3_advance 190 = .ok (.invokevirtual 176, 3) := by decide +kernel
theorem dX3_advance_193 : decode cX3_advance 193 = .ok (.ifCond .eq 92, 3) := by decide +kernel
theorem dX3_advance_196 : decode cX3_advance 196 = .ok (.aload_n 0, 1) := by decide +kernel
theorem dX3_advance_197 : decode cX3_advance 197 = .ok (.iconst 0, 1) := by decide +kernel
theorem dX3_advance_198 : decode cX3_advance 198 = .ok (.putfield 136, 3) := by decide +kernel
theorem dX3_advance_201 : decode cX3_advance 201 = .ok (.aload_n 0, 1) := by decide +kernel
theorem dX3_advance_202 : decode cX3_advance 202 = .ok (.getfield 92, 3) := by decide +kernel
theorem dX3_advance_205 : decode cX3_advance 205 = .ok (.aload_n 0, 1) := by decide +kernel
theorem dX3_advance_206 : decode cX3_advance 206 = .ok (.getfield 89, 3) := by decide +kernel
theorem dX3_advance_209 : decode cX3_advance 209 = .ok (.if_icmp .ge 51, 3) := by decide +kernel
theorem dX3_advance_212 : decode cX3_advance 212 = .ok (.aload_n 0, 1) := by decide +kernel
theorem dX3_advance_213 : decode cX3_advance 213 = .ok (.aload_n 0, 1) := by decide +kernel
theorem dX3_advance_214 : decode cX3_advance 214 = .ok (.getfield 92, 3) := by decide +kernel
theorem dX3_advance_217 : decode cX3_advance 217 = .ok (.invokevirtual 176, 3) := by decide +kernel
theorem dX3_advance_220 : decode cX3_advance 220 = .ok (.ifCond .eq 40, 3) := by decide +kernel
theorem dX3_advance_223 : decode cX3_advance 223 = .ok (.aload_n 0, 1) := by decide +kernel
theorem dX3_advance_224 : decode cX3_advance 224 = .ok (.aload_n 0, 1) := by decide +kernel
theorem dX3_advance_225 : decode cX3_advance 225 = .ok (.getfield 136, 3) := by decide +kernel
theorem dX3_advance_228 : decode cX3_advance 228 = .ok (.bipush 10, 2) := by decide +kernel
theorem dX3_advance_230 : decode cX3_advance 230 = .ok (.imul, 1) := by decide +kernel
theorem dX3_advance_231 : decode cX3_advance 231 = .ok (.aload_n 0, 1) := by decide +kernel
theorem dX3_advance_232 : decode cX3_advance 232 = .ok (.getfield 18, 3) := by decide +kernel
theorem dX3_advance_235 : decode cX3_advance 235 = .ok (.aload_n 0, 1) := by decide +kernel
theorem dX3_advance_236 : decode cX3_advance 236 = .ok (.getfield 92, 3) := by decide +kernel
theorem dX3_advance_239 : decode cX3_advance 239 = .ok (.iaload, 1) := by decide +kernel
theorem dX3_advance_240 : decode cX3_advance 240 = .ok (.iadd, 1) := by decide +kernel
theorem dX3_advance_241 : decode cX3_advance 241 = .ok (.bipush 48, 2) := by decide +kernel
theorem dX3_advance_243 : decode cX3_advance 243 = .ok (.isub, 1) := by decide +kernel
theorem dX3_advance_244 : decode cX3_advance 244 = .ok (.putfield 136, 3) := by decide +kernel
theorem dX3_advance_247 : decode cX3_advance 247 = .ok (.aload_n 0, 1) := by decide +kernel
theorem dX3_advance_248 : decode cX3_advance 248 = .ok (.dup, 1) := by decide +kernel
theorem dX3_advance_249 : decode cX3_advance 249 = .ok (.getfield 92, 3) := by decide +kernel
theorem dX3_advance_252 : decode cX3_advance 252 = .ok (.iconst 1, 1) := by decide +kernel
theorem dX3_advance_253 : decode cX3_advance 253 = .ok (.iadd, 1) := by decide +kernel
theorem dX3_advance_254 : decode cX3_advance 254 = .ok (.putfield 92, 3) := by decide +kernel
theorem dX3_advance_257 : decode cX3_advance 257 = .ok (.goto (-56), 3) := by decide +kernel
theorem dX3_advance_260 : decode cX3_advance 260 = .ok (.aload_n 0, 1) := by decide +kernel
theorem dX3_advance_261 : decode cX3_advance 261 = .ok (.aload_n 0, 1) := by decide +kernel
theorem dX3_advance_262 : decode cX3_advance 262 = .ok (.getfield 92, 3) := by decide +kernel
theorem dX3_advance_265 : decode cX3_advance 265 = .ok (.aload_n 0, 1) := by decide +kernel
theorem dX3_advance_266 : decode cX3_advance 266 = .ok (.getfield 170, 3) := by decide +kernel
theorem dX3_advance_269 : decode cX3_advance 269 = .ok (.isub, 1) := by decide +kernel
theorem dX3_advance_270 : decode cX3_advance 270 = .ok (.iconst 3, 1) := by decide +kernel
theorem dX3_advance_271 : decode cX3_advance 271 = .ok (.if_icmp .le 7, 3) := by decide +kernel
theorem dX3_advance_274 : decode cX3_advance 274 = .ok (.iconst 4, 1) := by decide +kernel
theorem dX3_advance_275 : decode cX3_advance 275 = .ok (.goto 4, 3) := by decide +kernel
theorem dX3_advance_278 : decode cX3_advance 278 = .ok (.iconst 2, 1) := by decide +kernel
theorem dX3_advance_279 : decode cX3_advance 279 = .ok (.putfield 43, 3) := by decide +kernel
theorem dX3_advance_282 : decode cX3_advance 282 = .ok (.goto 8, 3) := by decide +kernel
theorem dX3_advance_285 : decode cX3_advance 285 = .ok (.aload_n 0, 1) := by decide +kernel
theorem dX3_advance_286 : decode cX3_advance 286 = .ok (.iconst 4, 1) := by decide +kernel
theorem dX3_advance_287 : decode cX3_advance 287 = .ok (.putfield 43, 3) := by decide +kernel
theorem dX3_advance_290 : decode cX3_advance 290 = .ok (.return_, 1) := by decide +kernel
theorem dX3_isLetter_0 : decode cX3_isLetter 0 = .ok (.iload_n 1, 1) := by decide +kernel
theorem dX3_isLetter_1 : decode cX3_isLetter 1 = .ok (.aload_n 0, 1) := by decide +kernel
theorem dX3_isLetter_2 : decode cX3_isLetter 2 = .ok (.getfield 89, 3) := by decide +kernel
theorem dX3_isLetter_5 : decode cX3_isLetter 5 = .ok (.if_icmp .ge 29, 3) := by decide +kernel
theorem dX3_isLetter_8 : decode cX3_isLetter 8 = .ok (.aload_n 0, 1) := by decide +kernel
theorem dX3_isLetter_9 : decode cX3_isLetter 9 = .ok (.getfield 18, 3) := by decide +kernel
theorem dX3_isLetter_12 : decode cX3_isLetter 12 = .ok (.iload_n 1, 1) := by decide +kernel
theorem dX3_isLetter_13 : decode cX3_isLetter 13 = .ok (.iaload, 1) := by decide +kernel
theorem dX3_isLetter_14 : decode cX3_isLetter 14 = .ok (.bipush 97, 2) := by decide +kernel
theorem dX3_isLetter_16 : decode cX3_isLetter 16 = .ok (.if_icmp .lt 18, 3) := by decide +kernel
theorem dX3_isLetter_19 : decode cX3_isLetter 19 = .ok (.aload_n 0, 1) := by decide +kernel
theorem dX3_isLetter_20 : decode cX3_isLetter 20 = .ok (.getfield 18, 3) := by decide +kernel
theorem dX3_isLetter_23 : decode cX3_isLetter 23 = .ok (.iload_n 1, 1) := by decide +kernel
theorem dX3_isLetter_24 : decode cX3_isLetter 24 = .ok (.iaload, 1) := by decide +kernel
theorem dX3_isLetter_25 : decode cX3_isLetter 25 = .ok (.bipush 122, 2) := by decide +kernel
theorem dX3_isLetter_27 : decode cX3_isLetter 27 = .ok (.if_icmp .gt 7, 3) := by decide +kernel
theorem dX3_isLetter_30 : decode cX3_isLetter 30 = .ok (.iconst 1, 1) := by decide +kernel
theorem dX3_isLetter_31 : decode cX3_isLetter 31 = .ok (.goto 4, 3) := by decide +kernel
theorem dX3_isLetter_34 : decode cX3_isLetter 34 = .ok (.iconst 0, 1) := by decide +kernel
theorem dX3_isLetter_35 : decode cX3_isLetter 35 = .ok (.ireturn, 1) := by decide +kernel
theorem dX3_isDigit_0 : decode cX3_isDigit 0 = .ok (.iload_n 1, 1) := by decide +kernel
theorem dX3_isDigit_1 : decode cX3_isDigit 1 = .ok (.aload_n 0, 1) := by decide +kernel
theorem dX3_isDigit_2 : decode cX3_isDigit 2 = .ok (.getfield 89, 3) := by decide +kernel
theorem dX3_isDigit_5 : decode cX3_isDigit 5 = .ok (.if_icmp .ge 29, 3) := by decide +kernel
theorem dX3_isDigit_8 : decode cX3_isDigit 8 = .ok (.aload_n 0, 1) := by decide +kernel
theorem dX3_isDigit_9 : decode cX3_isDigit 9 = .ok (.getfield 18, 3) := by decide +kernel
theorem dX3_isDigit_12 : decode cX3_isDigit 12 = .ok (.iload_n 1, 1) := by decide +kernel
theorem dX3_isDigit_13 : decode cX3_isDigit 13 = .ok (.iaload, 1) := by decide +kernel
theorem dX3_isDigit_14 : decode cX3_isDigit 14 = .ok (.bipush 48, 2) := by decide +kernel
theorem dX3_isDigit_16 : decode cX3_isDigit 16 = .ok (.if_icmp .lt 18, 3) := by decide +kernel
theorem dX3_isDigit_19 : decode cX3_isDigit 19 = .ok (.aload_n 0, 1) := by decide +kernel
theorem dX3_isDigit_20 : decode cX3_isDigit 20 = .ok (.getfield 18, 3) := by decide +kernel
theorem dX3_isDigit_23 : decode cX3_isDigit 23 = .ok (.iload_n 1, 1) := by decide +kernel
theorem dX3_isDigit_24 : decode cX3_isDigit 24 = .ok (.iaload, 1) := by decide +kernel
theorem dX3_isDigit_25 : decode cX3_isDigit 25 = .ok (.bipush 57, 2) := by decide +kernel
theorem dX3_isDigit_27 : decode cX3_isDigit 27 = .ok (.if_icmp .gt 7, 3) := by decide +kernel
theorem dX3_isDigit_30 : decode cX3_isDigit 30 = .ok (.iconst 1, 1) := by decide +kernel
theorem dX3_isDigit_31 : decode cX3_isDigit 31 = .ok (.goto 4, 3) := by decide +kernel
theorem dX3_isDigit_34 : decode cX3_isDigit 34 = .ok (.iconst 0, 1) := by decide +kernel
theorem dX3_isDigit_35 : decode cX3_isDigit 35 = .ok (.ireturn, 1) := by decide +kernel
theorem dX3_isWord_0 : decode cX3_isWord 0 = .ok (.aload_n 0, 1) := by decide +kernel
theorem dX3_isWord_1 : decode cX3_isWord 1 = .ok (.getfield 43, 3) := by decide +kernel
theorem dX3_isWord_4 : decode cX3_isWord 4 = .ok (.iconst 1, 1) := by decide +kernel
theorem dX3_isWord_5 : decode cX3_isWord 5 = .ok (.if_icmp .ne 19, 3) := by decide +kernel
theorem dX3_isWord_8 : decode cX3_isWord 8 = .ok (.aload_n 0, 1) := by decide +kernel
theorem dX3_isWord_9 : decode cX3_isWord 9 = .ok (.getfield 92, 3) := by decide +kernel
theorem dX3_isWord_12 : decode cX3_isWord 12 = .ok (.aload_n 0, 1) := by decide +kernel
theorem dX3_isWord_13 : decode cX3_isWord 13 = .ok (.getfield 170, 3) := by decide +kernel
theorem dX3_isWord_16 : decode cX3_isWord 16 = .ok (.isub, 1) := by decide +kernel
theorem dX3_isWord_17 : decode cX3_isWord 17 = .ok (.aload_n 1, 1) := by decide +kernel
theorem dX3_isWord_18 : decode cX3_isWord 18 = .ok (.invokevirtual 179, 3) := by decide +kernel
theorem dX3_isWord_21 : decode cX3_isWord 21 = .ok (.if_icmp .eq 5, 3) := by decide +kernel
theorem dX3_isWord_24 : decode cX3_isWord 24 = .ok (.iconst 0, 1) := by decide +kernel
theorem dX3_isWord_25 : decode cX3_isWord 25 = .ok (.ireturn, 1) := by decide +kernel
theorem dX3_isWord_26 : decode cX3_isWord 26 = .ok (.iconst 0, 1) := by decide +kernel
theorem dX3_isWord_27 : decode cX3_isWord 27 = .ok (.istore_n 2, 1) := by decide +kernel
theorem dX3_isWord_28 : decode cX3_isWord 28 = .ok (.iload_n 2, 1) := by decide +kernel
theorem dX3_isWord_29 : decode cX3_isWord 29 = .ok (.aload_n 1, 1) := by decide +kernel
theorem dX3_isWord_30 : decode cX3_isWord 30 = .ok (.invokevirtual 179, 3) := by decide +kernel
theorem dX3_isWord_33 : decode cX3_isWord 33 = .ok (.if_icmp .ge 30, 3) := by decide +kernel
theorem dX3_isWord_36 : decode cX3_isWord 36 = .ok (.aload_n 0, 1) := by decide +kernel
theorem dX3_isWord_37 : decode cX3_isWord 37 = .ok (.getfield 18, 3) := by decide +kernel
theorem dX3_isWord_40 : decode cX3_isWord 40 = .ok (.aload_n 0, 1) := by decide +kernel
theorem dX3_isWord_41 : decode cX3_isWord 41 = .ok (.getfield 170, 3) := by decide +kernel
theorem dX3_isWord_44 : decode cX3_isWord 44 = .ok (.iload_n 2, 1) := by decide +kernel
theorem dX3_isWord_45 : decode cX3_isWord 45 = .ok (.iadd, 1) := by decide +kernel
theorem dX3_isWord_46 : decode cX3_isWord 46 = .ok (.iaload, 1) := by decide +kernel
theorem dX3_isWord_47 : decode cX3_isWord 47 = .ok (.aload_n 1, 1) := by decide +kernel
theorem dX3_isWord_48 : decode cX3_isWord 48 = .ok (.iload_n 2, 1) := by decide +kernel
theorem dX3_isWord_49 : decode cX3_isWord 49 = .ok (.invokevirtual 184, 3) := by decide +kernel
theorem dX3_isWord_52 : decode cX3_isWord 52 = .ok (.if_icmp .eq 5, 3) := by decide +kernel
theorem dX3_isWord_55 : decode cX3_isWord 55 = .ok (.iconst 0, 1) := by decide +kernel
theorem dX3_isWord_56 : decode cX3_isWord 56 = .ok (.ireturn, 1) := by decide +kernel
theorem dX3_isWord_57 : decode cX3_isWord 57 = .ok (.iinc 2 1, 3) := by decide +kernel
theorem dX3_isWord_60 : decode cX3_isWord 60 = .ok (.goto (-32), 3) := by decide +kernel
theorem dX3_isWord_63 : decode cX3_isWord 63 = .ok (.iconst 1, 1) := by decide +kernel
theorem dX3_isWord_64 : decode cX3_isWord 64 = .ok (.ireturn, 1) := by decide +kernel
theorem dX4_init_0 : decode cX4_init 0 = .ok (.aload_n 0, 1) := by decide +kernel
theorem dX4_init_1 : decode cX4_init 1 = .ok (.invokespecial 3, 3) := by decide +kernel
theorem dX4_init_4 : decode cX4_init 4 = .ok (.aload_n 0, 1) := by decide +kernel
theorem dX4_init_5 : decode cX4_init 5 = .ok (.sipush 864, 3) := by decide +kernel
theorem dX4_init_8 : decode cX4_init 8 = .ok (.newarray .int, 2) := by decide +kernel
theorem dX4_init_10 : decode cX4_init 10 = .ok (.putfield 9, 3) := by decide +kernel
theorem dX4_init_13 : decode cX4_init 13 = .ok (.return_, 1) := by decide +kernel
theorem dX4_clear_0 : decode cX4_clear 0 = .ok (.aload_n 0, 1) := by decide +kernel
theorem dX4_clear_1 : decode cX4_clear 1 = .ok (.iconst 0, 1) := by decide +kernel
theorem dX4_clear_2 : decode cX4_clear 2 = .ok (.putfield 15, 3) := by decide +kernel
theorem dX4_clear_5 : decode cX4_clear 5 = .ok (.return_, 1) := by decide +kernel
theorem dX4_addSign_0 : decode cX4_addSign 0 = .ok (.aload_n 0, 1) := by decide +kernel
theorem dX4_addSign_1 : decode cX4_addSign 1 = .ok (.getfield 15, 3) := by decide +kernel
theorem dX4_addSign_4 : decode cX4_addSign 4 = .ok (.aload_n 0, 1) := by decide +kernel
theorem dX4_addSign_5 : decode cX4_addSign 5 = .ok (.getfield 9, 3) := by decide +kernel
theorem dX4_addSign_8 : decode cX4_addSign 8 = .ok (.arraylength, 1) := by decide +kernel
theorem dX4_addSign_9 : decode cX4_addSign 9 = .ok (.if_icmp .ge 23, 3) := by decide +kernel
theorem dX4_addSign_12 : decode cX4_addSign 12 = .ok (.aload_n 0, 1) := by decide +kernel
theorem dX4_addSign_13 : decode cX4_addSign 13 = .ok (.getfield 9, 3) := by decide +kernel
theorem dX4_addSign_16 : decode cX4_addSign 16 = .ok (.aload_n 0, 1) := by decide +kernel
theorem dX4_addSign_17 : decode cX4_addSign 17 = .ok (.getfield 15, 3) := by decide +kernel
theorem dX4_addSign_20 : decode cX4_addSign 20 = .ok (.iload_n 1, 1) := by decide +kernel
theorem dX4_addSign_21 : decode cX4_addSign 21 = .ok (.iastore, 1) := by decide +kernel
theorem dX4_addSign_22 : decode cX4_addSign 22 = .ok (.aload_n 0, 1) := by decide +kernel
theorem dX4_addSign_23 : decode cX4_addSign 23 = .ok (.dup, 1) := by decide +kernel
theorem dX4_addSign_24 : decode cX4_addSign 24 = .ok (.getfield 15, 3) := by decide +kernel
theorem dX4_addSign_27 : decode cX4_addSign 27 = .ok (.iconst 1, 1) := by decide +kernel
theorem dX4_addSign_28 : decode cX4_addSign 28 = .ok (.iadd, 1) := by decide +kernel
theorem dX4_addSign_29 : decode cX4_addSign 29 = .ok (.putfield 15, 3) := by decide +kernel
theorem dX4_addSign_32 : decode cX4_addSign 32 = .ok (.return_, 1) := by decide +kernel
theorem dX4_addNumber_0 : decode cX4_addNumber 0 = .ok (.iload_n 1, 1) := by decide +kernel
theorem dX4_addNumber_1 : decode cX4_addNumber 1 = .ok (.bipush 100, 2) := by decide +kernel
theorem dX4_addNumber_3 : decode cX4_addNumber 3 = .ok (.if_icmp .lt 14, 3) := by decide +kernel
theorem dX4_addNumber_6 : decode cX4_addNumber 6 = .ok (.aload_n 0, 1) := by decide +kernel
theorem dX4_addNumber_7 : decode cX4_addNumber 7 = .ok (.bipush 48, 2) := by decide +kernel
theorem dX4_addNumber_9 : decode cX4_addNumber 9 = .ok (.iload_n 1, 1) := by decide +kernel
theorem dX4_addNumber_10 : decode cX4_addNumber 10 = .ok (.bipush 100, 2) := by decide +kernel
theorem dX4_addNumber_12 : decode cX4_addNumber 12 = .ok (.idiv, 1) := by decide +kernel
theorem dX4_addNumber_13 : decode cX4_addNumber 13 = .ok (.iadd, 1) := by decide +kernel
theorem dX4_addNumber_14 : decode cX4_addNumber 14 = .ok (.invokevirtual 19, 3) := by decide +kernel
theorem dX4_addNumber_17 : decode cX4_addNumber 17 = .ok (.iload_n 1, 1) := by decide +kernel
theorem dX4_addNumber_18 : decode cX4_addNumber 18 = .ok (.bipush 10, 2) := by decide +kernel
theorem dX4_addNumber_20 : decode cX4_addNumber 20 = .ok (.if_icmp .lt 17, 3) := by decide +kernel
theorem dX4_addNumber_23 : decode cX4_addNumber 23 = .ok (.aload_n 0, 1) := by decide +kernel
theorem dX4_addNumber_24 : decode cX4_addNumber 24 = .ok (.bipush 48, 2) := by decide +kernel
theorem dX4_addNumber_26 : decode cX4_addNumber 26 = .ok (.iload_n 1, 1) := by decide +kernel
theorem dX4_addNumber_27 : decode cX4_addNumber 27 = .ok (.bipush 10, 2) := by decide +kernel
theorem dX4_addNumber_29 : decode cX4_addNumber 29 = .ok (.idiv, 1) := by decide +kernel
theorem dX4_addNumber_30 : decode cX4_addNumber 30 = .ok (.bipush 10, 2) := by decide +kernel
theorem dX4_addNumber_32 : decode cX4_addNumber 32 = .ok (.irem, 1) := by decide +kernel
theorem dX4_addNumber_33 : decode cX4_addNumber 33 = .ok (.iadd, 1) := by decide +kernel
theorem dX4_addNumber_34 : decode cX4_addNumber 34 = .ok (.invokevirtual 19, 3) := by decide +kernel
theorem dX4_addNumber_37 : decode cX4_addNumber 37 = .ok (.aload_n 0, 1) := by decide +kernel
theorem dX4_addNumber_38 : decode cX4_addNumber 38 = .ok (.bipush 48, 2) := by decide +kernel
theorem dX4_addNumber_40 : decode cX4_addNumber 40 = .ok (.iload_n 1, 1) := by decide +kernel
theorem dX4_addNumber_41 : decode cX4_addNumber 41 = .ok (.bipush 10, 2) := by decide +kernel
theorem dX4_addNumber_43 : decode cX4_addNumber 43 = .ok (.irem, 1) := by decide +kernel
theorem dX4_addNumber_44 : decode cX4_addNumber 44 = .ok (.iadd, 1) := by decide +kernel
theorem dX4_addNumber_45 : decode cX4_addNumber 45 = .ok (.invokevirtual 19, 3) := by decide +kernel
theorem dX4_addNumber_48 : decode cX4_addNumber 48 = .ok (.return_, 1) := by decide +kernel
theorem dX5_init_0 : decode cX5_init 0 = .ok (.aload_n 0, 1) := by decide +kernel
theorem dX5_init_1 : decode cX5_init 1 = .ok (.invokespecial 1, 3) := by decide +kernel
theorem dX5_init_4 : decode cX5_init 4 = .ok (.aload_n 0, 1) := by decide +kernel
theorem dX5_init_5 : decode cX5_init 5 = .ok (.new 7, 3) := by decide +kernel
theorem dX5_init_8 : decode cX5_init 8 = .ok (.dup, 1) := by decide +kernel
theorem dX5_init_9 : decode cX5_init 9 = .ok (.invokespecial 9, 3) := by decide +kernel
theorem dX5_init_12 : decode cX5_init 12 = .ok (.putfield 10, 3) := by decide +kernel
theorem dX5_init_15 : decode cX5_init 15 = .ok (.aload_n 0, 1) := by decide +kernel
theorem dX5_init_16 : decode cX5_init 16 = .ok (.new 7, 3) := by decide +kernel
theorem dX5_init_19 : decode cX5_init 19 = .ok (.dup, 1) := by decide +kernel
theorem dX5_init_20 : decode cX5_init 20 = .ok (.invokespecial 9, 3) := by decide +kernel
theorem dX5_init_23 : decode cX5_init 23 = .ok (.putfield 16, 3) := by decide +kernel
theorem dX5_init_26 : decode cX5_init 26 = .ok (.aload_n 0, 1) := by decide +kernel
theorem dX5_init_27 : decode cX5_init 27 = .ok (.new 19, 3) := by decide +kernel
theorem dX5_init_30 : decode cX5_init 30 = .ok (.dup, 1) := by decide +kernel
theorem dX5_init_31 : decode cX5_init 31 = .ok (.invokespecial 21, 3) := by decide +kernel
theorem dX5_init_34 : decode cX5_init 34 = .ok (.putfield 22, 3) := by decide +kernel
theorem dX5_init_37 : decode cX5_init 37 = .ok (.aload_n 0, 1) := by decide +kernel
theorem dX5_init_38 : decode cX5_init 38 = .ok (.new 26, 3) := by decide +kernel
theorem dX5_init_41 : decode cX5_init 41 = .ok (.dup, 1) := by decide +kernel
theorem dX5_init_42 : decode cX5_init 42 = .ok (.invokespecial 28, 3) := by decide +kernel
theorem dX5_init_45 : decode cX5_init 45 = .ok (.putfield 29, 3) := by decide +kernel
theorem dX5_init_48 : decode cX5_init 48 = .ok (.aload_n 0, 1) := by decide +kernel
theorem dX5_init_49 : decode cX5_init 49 = .ok (.iconst 2, 1) := by decide +kernel
theorem dX5_init_50 : decode cX5_init 50 = .ok (.anewarray 33, 3) := by decide +kernel
theorem dX5_init_53 : decode cX5_init 53 = .ok (.putfield 35, 3) := by decide +kernel
theorem dX5_init_56 : decode cX5_init 56 = .ok (.aload_n 0, 1) := by decide +kernel
theorem dX5_init_57 : decode cX5_init 57 = .ok (.new 39, 3) := by decide +kernel
theorem dX5_init_60 : decode cX5_init 60 = .ok (.dup, 1) := by decide +kernel
theorem dX5_init_61 : decode cX5_init 61 = .ok (.invokespecial 41, 3) := by decide +kernel
theorem dX5_init_64 : decode cX5_init 64 = .ok (.putfield 42, 3) := by decide +kernel
theorem dX5_init_67 : decode cX5_init 67 = .ok (.iconst 0, 1) := by decide +kernel
theorem dX5_init_68 : decode cX5_init 68 = .ok (.istore_n 1, 1) := by decide +kernel
theorem dX5_init_69 : decode cX5_init 69 = .ok (.iload_n 1, 1) := by decide +kernel
theorem dX5_init_70 : decode cX5_init 70 = .ok (.iconst 2, 1) := by decide +kernel
theorem dX5_init_71 : decode cX5_init 71 = .ok (.if_icmp .ge 22, 3) := by decide +kernel
theorem dX5_init_74 : decode cX5_init 74 = .ok (.aload_n 0, 1) := by decide +kernel
theorem dX5_init_75 : decode cX5_init 75 = .ok (.getfield 35, 3) := by decide +kernel
theorem dX5_init_78 : decode cX5_init 78 = .ok (.iload_n 1, 1) := by decide +kernel
theorem dX5_init_79 : decode cX5_init 79 = .ok (.new 33, 3) := by decide +kernel
theorem dX5_init_82 : decode cX5_init 82 = .ok (.dup, 1) := by decide +kernel
theorem dX5_init_83 : decode cX5_init 83 = .ok (.invokespecial 46, 3) := by decide +kernel
theorem dX5_init_86 : decode cX5_init 86 = .ok (.aastore, 1) := by decide +kernel
theorem dX5_init_87 : decode cX5_init 87 = .ok (.iinc 1 1, 3) := by decide +kernel
theorem dX5_init_90 : decode cX5_init 90 = .ok (.goto (-21), 3) := by decide +kernel
theorem dX5_init_93 : decode cX5_init 93 = .ok (.return_, 1) := by decide +kernel
theorem dX5_append_0 : decode cX5_append 0 = .ok (.aload_n 0, 1) := by decide +kernel
theorem dX5_append_1 : decode cX5_append 1 = .ok (.getfield 22, 3) := by decide +kernel
theorem dX5_append_4 : decode cX5_append 4 = .ok (.bipush 20, 2) := by decide +kernel
theorem dX5_append_6 : decode cX5_append 6 = .ok (.invokevirtual 47, 3) := by decide +kernel
theorem dX5_append_9 : decode cX5_append 9 = .ok (.ifCond .ne 5, 3) := by decide +kernel
theorem dX5_append_12 : decode cX5_append 12 = .ok (.iconst (-1), 1) := by decide +kernel
theorem dX5_append_13 : decode cX5_append 13 = .ok (.ireturn, 1) := by decide +kernel
theorem dX5_append_14 : decode cX5_append 14 = .ok (.aload_n 0, 1) := by decide +kernel
theorem dX5_append_15 : decode cX5_append 15 = .ok (.getfield 22, 3) := by decide +kernel
theorem dX5_append_18 : decode cX5_append 18 = .ok (.iload_n 1, 1) := by decide +kernel
theorem dX5_append_19 : decode cX5_append 19 = .ok (.invokevirtual 51, 3) := by decide +kernel
theorem dX5_append_22 : decode cX5_append 22 = .ok (.aload_n 0, 1) := by decide +kernel
theorem dX5_append_23 : decode cX5_append 23 = .ok (.getfield 22, 3) := by decide +kernel
theorem dX5_append_26 : decode cX5_append 26 = .ok (.iload_n 2, 1) := by decide +kernel
theorem dX5_append_27 : decode cX5_append 27 = .ok (.invokevirtual 51, 3) := by decide +kernel
theorem dX5_append_30 : decode cX5_append 30 = .ok (.aload_n 0, 1) := by decide +kernel
theorem dX5_append_31 : decode cX5_append 31 = .ok (.getfield 22, 3) := by decide +kernel
theorem dX5_append_34 : decode cX5_append 34 = .ok (.iload_n 3, 1) := by decide +kernel
theorem dX5_append_35 : decode cX5_append 35 = .ok (.invokevirtual 51, 3) := by decide +kernel
theorem dX5_append_38 : decode cX5_append 38 = .ok (.aload_n 0, 1) := by decide +kernel
theorem dX5_append_39 : decode cX5_append 39 = .ok (.getfield 22, 3) := by decide +kernel
theorem dX5_append_42 : decode cX5_append 42 = .ok (.iload 4, 2) := by decide +kernel
theorem dX5_append_44 : decode cX5_append 44 = .ok (.invokevirtual 51, 3) := by decide +kernel
theorem dX5_append_47 : decode cX5_append 47 = .ok (.aload_n 0, 1) := by decide +kernel
theorem dX5_append_48 : decode cX5_append 48 = .ok (.getfield 22, 3) := by decide +kernel
theorem dX5_append_51 : decode cX5_append 51 = .ok (.iload 5, 2) := by decide +kernel
theorem dX5_append_53 : decode cX5_append 53 = .ok (.invokevirtual 51, 3) := by decide +kernel
theorem dX5_append_56 : decode cX5_append 56 = .ok (.aload_n 0, 1) := by decide +kernel
theorem dX5_append_57 : decode cX5_append 57 = .ok (.getfield 22, 3) := by decide +kernel
theorem dX5_append_60 : decode cX5_append 60 = .ok (.getfield 55, 3) := by decide +kernel
theorem dX5_append_63 : decode cX5_append 63 = .ok (.ireturn, 1) := by decide +kernel
theorem dX5_load_0 : decode cX5_load 0 = .ok (.iload_n 1, 1) := by decide +kernel
theorem dX5_load_1 : decode cX5_load 1 = .ok (.ifCond .lt 14, 3) := by decide +kernel
theorem dX5_load_4 : decode cX5_load 4 = .ok (.iload_n 1, 1) := by decide +kernel
theorem dX5_load_5 : decode cX5_load 5 = .ok (.aload_n 0, 1) := by decide +kernel
theorem dX5_load_6 : decode cX5_load 6 = .ok (.getfield 22, 3) := by decide +kernel
theorem dX5_load_9 : decode cX5_load 9 = .ok (.getfield 55, 3) := by decide +kernel
theorem dX5_load_12 : decode cX5_load 12 = .ok (.if_icmp .le 13, 3) := by decide +kernel
theorem dX5_load_15 : decode cX5_load 15 = .ok (.new 59, 3) := by decide +kernel
theorem dX5_load_18 : decode cX5_load 18 = .ok (.dup, 1) := by decide +kernel
theorem dX5_load_19 : decode cX5_load 19 = .ok (.ldc 61, 2) := by decide +kernel
theorem dX5_load_21 : decode cX5_load 21 = .ok (.invokespecial 63, 3) := by decide +kernel
theorem dX5_load_24 : decode cX5_load 24 = .ok (.athrow, 1) := by decide +kernel
theorem dX5_load_25 : decode cX5_load 25 = .ok (.aload_n 0, 1) := by decide +kernel
theorem dX5_load_26 : decode cX5_load 26 = .ok (.getfield 22, 3) := by decide +kernel
theorem dX5_load_29 : decode cX5_load 29 = .ok (.iload_n 1, 1) := by decide +kernel
theorem dX5_load_30 : decode cX5_load 30 = .ok (.invokevirtual 66, 3) := by decide +kernel
theorem dX5_load_33 : decode cX5_load 33 = .ok (.ifCond .ne 13, 3) := by decide +kernel
theorem dX5_load_36 : decode cX5_load 36 = .ok (.new 69, 3) := by decide +kernel
theorem dX5_load_39 : decode cX5_load 39 = .ok (.dup, 1) := by decide +kernel
theorem dX5_load_40 : decode cX5_load 40 = .ok (.ldc 71, 2) := by decide +kernel
theorem dX5_load_42 : decode cX5_load 42 = .ok (.invokespecial 73, 3) := by decide +kernel
theorem dX5_load_45 : decode cX5_load 45 = .ok (.athrow, 1) := by decide +kernel
theorem dX5_load_46 : decode cX5_load 46 = .ok (.aload_n 0, 1) := by decide +kernel
theorem dX5_load_47 : decode cX5_load 47 = .ok (.getfield 10, 3) := by decide +kernel
theorem dX5_load_50 : decode cX5_load 50 = .ok (.getfield 74, 3) := by decide +kernel
theorem dX5_load_53 : decode cX5_load 53 = .ok (.aload_n 0, 1) := by decide +kernel
theorem dX5_load_54 : decode cX5_load 54 = .ok (.getfield 22, 3) := by decide +kernel
theorem dX5_load_57 : decode cX5_load 57 = .ok (.getfield 78, 3) := by decide +kernel
theorem dX5_load_60 : decode cX5_load 60 = .ok (.getfield 74, 3) := by decide +kernel
theorem dX5_load_63 : decode cX5_load 63 = .ok (.invokevirtual 81, 3) := by decide +kernel
theorem dX5_load_66 : decode cX5_load 66 = .ok (.aload_n 0, 1) := by decide +kernel
theorem dX5_load_67 : decode cX5_load 67 = .ok (.getfield 29, 3) := by decide +kernel
theorem dX5_load_70 : decode cX5_load 70 = .ok (.invokevirtual 85, 3) := by decide +kernel
theorem dX5_load_73 : decode cX5_load 73 = .ok (.iconst 0, 1) := by decide +kernel
theorem dX5_load_74 : decode cX5_load 74 = .ok (.istore_n 2, 1) := by decide +kernel
theorem dX5_load_75 : decode cX5_load 75 = .ok (.iload_n 2, 1) := by decide +kernel
theorem dX5_load_76 : decode cX5_load 76 = .ok (.iconst 2, 1) := by decide +kernel
theorem dX5_load_77 : decode cX5_load 77 = .ok (.if_icmp .ge 18, 3) := by decide +kernel
theorem dX5_load_80 : decode cX5_load 80 = .ok (.aload_n 0, 1) := by decide +kernel
theorem dX5_load_81 : decode cX5_load 81 = .ok (.getfield 35, 3) := by decide +kernel
theorem dX5_load_84 : decode cX5_load 84 = .ok (.iload_n 2, 1) := by decide +kernel
theorem dX5_load_85 : decode cX5_load 85 = .ok (.aaload, 1) := by decide +kernel
theorem dX5_load_86 : decode cX5_load 86 = .ok (.invokevirtual 88, 3) := by decide +kernel
theorem dX5_load_89 : decode cX5_load 89 = .ok (.iinc 2 1, 3) := by decide +kernel
theorem dX5_load_92 : decode cX5_load 92 = .ok (.goto (-17), 3) := by decide +kernel
theorem dX5_load_95 : decode cX5_load 95 = .ok (.aload_n 0, 1) := by decide +kernel
theorem dX5_load_96 : decode cX5_load 96 = .ok (.getfield 10, 3) := by decide +kernel
theorem dX5_load_99 : decode cX5_load 99 = .ok (.getfield 74, 3) := by decide +kernel
theorem dX5_load_102 : decode cX5_load 102 = .ok (.getfield 91, 3) := by decide +kernel
theorem dX5_load_105 : decode cX5_load 105 = .ok (.ireturn, 1) := by decide +kernel
theorem dX5_parseError_0 : decode cX5_parseError 0 = .ok (.aload_n 0, 1) := by decide +kernel
theorem dX5_parseError_1 : decode cX5_parseError 1 = .ok (.getfield 22, 3) := by decide +kernel
theorem dX5_parseError_4 : decode cX5_parseError 4 = .ok (.getfield 94, 3) := by decide +kernel
theorem dX5_parseError_7 : decode cX5_parseError 7 = .ok (.ireturn, 1) := by decide +kernel
theorem dX5_errorPosition_0 : decode cX5_errorPosition 0 = .ok (.aload_n 0, 1) := by decide +kernel
theorem dX5_errorPosition_1 : decode cX5_errorPosition 1 = .ok (.getfield 22, 3) := by decide +kernel
theorem dX5_errorPosition_4 : decode cX5_errorPosition 4 = .ok (.getfield 97, 3) := by decide +kernel
theorem dX5_errorPosition_7 : decode cX5_errorPosition 7 = .ok (.ireturn, 1) := by decide +kernel
theorem dX5_size_0 : decode cX5_size 0 = .ok (.aload_n 0, 1) := by decide +kernel
theorem dX5_size_1 : decode cX5_size 1 = .ok (.getfield 10, 3) := by decide +kernel
theorem dX5_size_4 : decode cX5_size 4 = .ok (.getfield 74, 3) := by decide +kernel
theorem dX5_size_7 : decode cX5_size 7 = .ok (.getfield 91, 3) := by decide +kernel
theorem dX5_size_10 : decode cX5_size 10 = .ok (.ireturn, 1) := by decide +kernel
theorem dX5_setting_0 : decode cX5_setting 0 = .ok (.aload_n 0, 1) := by decide +kernel
theorem dX5_setting_1 : decode cX5_setting 1 = .ok (.invokevirtual 100, 3) := by decide +kernel
theorem dX5_setting_4 : decode cX5_setting 4 = .ok (.aload_n 0, 1) := by decide +kernel
theorem dX5_setting_5 : decode cX5_setting 5 = .ok (.iload_n 1, 1) := by decide +kernel
theorem dX5_setting_6 : decode cX5_setting 6 = .ok (.iconst 5, 1) := by decide +kernel
theorem dX5_setting_7 : decode cX5_setting 7 = .ok (.invokevirtual 103, 3) := by decide +kernel
theorem dX5_setting_10 : decode cX5_setting 10 = .ok (.aload_n 0, 1) := by decide +kernel
theorem dX5_setting_11 : decode cX5_setting 11 = .ok (.getfield 10, 3) := by decide +kernel
theorem dX5_setting_14 : decode cX5_setting 14 = .ok (.getfield 74, 3) := by decide +kernel
theorem dX5_setting_17 : decode cX5_setting 17 = .ok (.getfield 107, 3) := by decide +kernel
theorem dX5_setting_20 : decode cX5_setting 20 = .ok (.iload_n 1, 1) := by decide +kernel
theorem dX5_setting_21 : decode cX5_setting 21 = .ok (.iaload, 1) := by decide +kernel
theorem dX5_setting_22 : decode cX5_setting 22 = .ok (.ireturn, 1) := by decide +kernel
theorem dX5_stored_0 : decode cX5_stored 0 = .ok (.aload_n 0, 1) := by decide +kernel
theorem dX5_stored_1 : decode cX5_stored 1 = .ok (.invokevirtual 100, 3) := by decide +kernel
theorem dX5_stored_4 : decode cX5_stored 4 = .ok (.aload_n 0, 1) := by decide +kernel
theorem dX5_stored_5 : decode cX5_stored 5 = .ok (.iload_n 1, 1) := by decide +kernel
theorem dX5_stored_6 : decode cX5_stored 6 = .ok (.invokevirtual 111, 3) := by decide +kernel
theorem dX5_stored_9 : decode cX5_stored 9 = .ok (.aload_n 0, 1) := by decide +kernel
theorem dX5_stored_10 : decode cX5_stored 10 = .ok (.getfield 10, 3) := by decide +kernel
theorem dX5_stored_13 : decode cX5_stored 13 = .ok (.getfield 74, 3) := by decide +kernel
theorem dX5_stored_16 : decode cX5_stored 16 = .ok (.getfield 114, 3) := by decide +kernel
theorem dX5_stored_19 : decode cX5_stored 19 = .ok (.iload_n 1, 1) := by decide +kernel
theorem dX5_stored_20 : decode cX5_stored 20 = .ok (.iaload, 1) := by decide +kernel
theorem dX5_stored_21 : decode cX5_stored 21 = .ok (.ireturn, 1) := by decide +kernel
theorem dX5_value_0 : decode cX5_value 0 = .ok (.aload_n 0, 1) := by decide +kernel
theorem dX5_value_1 : decode cX5_value 1 = .ok (.invokevirtual 100, 3) := by decide +kernel
theorem dX5_value_4 : decode cX5_value 4 = .ok (.aload_n 0, 1) := by decide +kernel
theorem dX5_value_5 : decode cX5_value 5 = .ok (.iload_n 1, 1) := by decide +kernel
theorem dX5_value_6 : decode cX5_value 6 = .ok (.invokevirtual 111, 3) := by decide +kernel
theorem dX5_value_9 : decode cX5_value 9 = .ok (.aload_n 0, 1) := by decide +kernel
theorem dX5_value_10 : decode cX5_value 10 = .ok (.getfield 10, 3) := by decide +kernel
theorem dX5_value_13 : decode cX5_value 13 = .ok (.getfield 74, 3) := by decide +kernel
theorem dX5_value_16 : decode cX5_value 16 = .ok (.iload_n 1, 1) := by decide +kernel
theorem dX5_value_17 : decode cX5_value 17 = .ok (.invokevirtual 117, 3) := by decide +kernel
theorem dX5_value_20 : decode cX5_value 20 = .ok (.ireturn, 1) := by decide +kernel
theorem dX5_source_0 : decode cX5_source 0 = .ok (.aload_n 0, 1) := by decide +kernel
theorem dX5_source_1 : decode cX5_source 1 = .ok (.invokevirtual 100, 3) := by decide +kernel
theorem dX5_source_4 : decode cX5_source 4 = .ok (.aload_n 0, 1) := by decide +kernel
theorem dX5_source_5 : decode cX5_source 5 = .ok (.iload_n 1, 1) := by decide +kernel
theorem dX5_source_6 : decode cX5_source 6 = .ok (.invokevirtual 111, 3) := by decide +kernel
theorem dX5_source_9 : decode cX5_source 9 = .ok (.aload_n 0, 1) := by decide +kernel
theorem dX5_source_10 : decode cX5_source 10 = .ok (.getfield 10, 3) := by decide +kernel
theorem dX5_source_13 : decode cX5_source 13 = .ok (.getfield 74, 3) := by decide +kernel
theorem dX5_source_16 : decode cX5_source 16 = .ok (.getfield 121, 3) := by decide +kernel
theorem dX5_source_19 : decode cX5_source 19 = .ok (.iload_n 1, 1) := by decide +kernel
theorem dX5_source_20 : decode cX5_source 20 = .ok (.iaload, 1) := by decide +kernel
theorem dX5_source_21 : decode cX5_source 21 = .ok (.ireturn, 1) := by decide +kernel
theorem dX5_promise_0 : decode cX5_promise 0 = .ok (.aload_n 0, 1) := by decide +kernel
theorem dX5_promise_1 : decode cX5_promise 1 = .ok (.invokevirtual 100, 3) := by decide +kernel
theorem dX5_promise_4 : decode cX5_promise 4 = .ok (.aload_n 0, 1) := by decide +kernel
theorem dX5_promise_5 : decode cX5_promise 5 = .ok (.iload_n 1, 1) := by decide +kernel
theorem dX5_promise_6 : decode cX5_promise 6 = .ok (.invokevirtual 111, 3) := by decide +kernel
theorem dX5_promise_9 : decode cX5_promise 9 = .ok (.aload_n 0, 1) := by decide +kernel
theorem dX5_promise_10 : decode cX5_promise 10 = .ok (.getfield 10, 3) := by decide +kernel
theorem dX5_promise_13 : decode cX5_promise 13 = .ok (.getfield 74, 3) := by decide +kernel
theorem dX5_promise_16 : decode cX5_promise 16 = .ok (.getfield 124, 3) := by decide +kernel
theorem dX5_promise_19 : decode cX5_promise 19 = .ok (.iload_n 1, 1) := by decide +kernel
theorem dX5_promise_20 : decode cX5_promise 20 = .ok (.iaload, 1) := by decide +kernel
theorem dX5_promise_21 : decode cX5_promise 21 = .ok (.ireturn, 1) := by decide +kernel
theorem dX5_hops_0 : decode cX5_hops 0 = .ok (.aload_n 0, 1) := by decide +kernel
theorem dX5_hops_1 : decode cX5_hops 1 = .ok (.invokevirtual 100, 3) := by decide +kernel
theorem dX5_hops_4 : decode cX5_hops 4 = .ok (.aload_n 0, 1) := by decide +kernel
theorem dX5_hops_5 : decode cX5_hops 5 = .ok (.iload_n 1, 1) := by decide +kernel
theorem dX5_hops_6 : decode cX5_hops 6 = .ok (.invokevirtual 111, 3) := by decide +kernel
theorem dX5_hops_9 : decode cX5_hops 9 = .ok (.aload_n 0, 1) := by decide +kernel
theorem dX5_hops_10 : decode cX5_hops 10 = .ok (.getfield 10, 3) := by decide +kernel
theorem dX5_hops_13 : decode cX5_hops 13 = .ok (.getfield 74, 3) := by decide +kernel
theorem dX5_hops_16 : decode cX5_hops 16 = .ok (.iload_n 1, 1) := by decide +kernel
theorem dX5_hops_17 : decode cX5_hops 17 = .ok (.invokevirtual 127, 3) := by decide +kernel
theorem dX5_hops_20 : decode cX5_hops 20 = .ok (.ireturn, 1) := by decide +kernel
theorem dX5_root_0 : decode cX5_root 0 = .ok (.aload_n 0, 1) := by decide +kernel
theorem dX5_root_1 : decode cX5_root 1 = .ok (.invokevirtual 100, 3) := by decide +kernel
theorem dX5_root_4 : decode cX5_root 4 = .ok (.aload_n 0, 1) := by decide +kernel
theorem dX5_root_5 : decode cX5_root 5 = .ok (.iload_n 1, 1) := by decide +kernel
theorem dX5_root_6 : decode cX5_root 6 = .ok (.invokevirtual 111, 3) := by decide +kernel
theorem dX5_root_9 : decode cX5_root 9 = .ok (.aload_n 0, 1) := by decide +kernel
theorem dX5_root_10 : decode cX5_root 10 = .ok (.getfield 10, 3) := by decide +kernel
theorem dX5_root_13 : decode cX5_root 13 = .ok (.getfield 74, 3) := by decide +kernel
theorem dX5_root_16 : decode cX5_root 16 = .ok (.iload_n 1, 1) := by decide +kernel
theorem dX5_root_17 : decode cX5_root 17 = .ok (.invokevirtual 130, 3) := by decide +kernel
theorem dX5_root_20 : decode cX5_root 20 = .ok (.ireturn, 1) := by decide +kernel
theorem dX5_isLocked_0 : decode cX5_isLocked 0 = .ok (.aload_n 0, 1) := by decide +kernel
theorem dX5_isLocked_1 : decode cX5_isLocked 1 = .ok (.invokevirtual 100, 3) := by decide +kernel
theorem dX5_isLocked_4 : decode cX5_isLocked 4 = .ok (.aload_n 0, 1) := by decide +kernel
theorem dX5_isLocked_5 : decode cX5_isLocked 5 = .ok (.iload_n 1, 1) := by decide +kernel
theorem dX5_isLocked_6 : decode cX5_isLocked 6 = .ok (.invokevirtual 111, 3) := by decide +kernel
theorem dX5_isLocked_9 : decode cX5_isLocked 9 = .ok (.aload_n 0, 1) := by decide +kernel
theorem dX5_isLocked_10 : decode cX5_isLocked 10 = .ok (.getfield 10, 3) := by decide +kernel
theorem dX5_isLocked_13 : decode cX5_isLocked 13 = .ok (.getfield 74, 3) := by decide +kernel
theorem dX5_isLocked_16 : decode cX5_isLocked 16 = .ok (.getfield 133, 3) := by decide +kernel
theorem dX5_isLocked_19 : decode cX5_isLocked 19 = .ok (.iload_n 1, 1) := by decide +kernel
theorem dX5_isLocked_20 : decode cX5_isLocked 20 = .ok (.baload, 1) := by decide +kernel
theorem dX5_isLocked_21 : decode cX5_isLocked 21 = .ok (.ireturn, 1) := by decide +kernel
theorem dX5_dependents_0 : decode cX5_dependents 0 = .ok (.aload_n 0, 1) := by decide +kernel
theorem dX5_dependents_1 : decode cX5_dependents 1 = .ok (.invokevirtual 100, 3) := by decide +kernel
theorem dX5_dependents_4 : decode cX5_dependents 4 = .ok (.aload_n 0, 1) := by decide +kernel
theorem dX5_dependents_5 : decode cX5_dependents 5 = .ok (.iload_n 1, 1) := by decide +kernel
theorem dX5_dependents_6 : decode cX5_dependents 6 = .ok (.invokevirtual 111, 3) := by decide +kernel
theorem dX5_dependents_9 : decode cX5_dependents 9 = .ok (.aload_n 0, 1) := by decide +kernel
theorem dX5_dependents_10 : decode cX5_dependents 10 = .ok (.getfield 10, 3) := by decide +kernel
theorem dX5_dependents_13 : decode cX5_dependents 13 = .ok (.getfield 74, 3) := by decide +kernel
theorem dX5_dependents_16 : decode cX5_dependents 16 = .ok (.astore_n 3, 1) := by decide +kernel
theorem dX5_dependents_17 : decode cX5_dependents 17 = .ok (.iconst 0, 1) := by decide +kernel
theorem dX5_dependents_18 : decode cX5_dependents 18 = .ok (.istore 4, 2) := by decide +kernel
theorem dX5_dependents_20 : decode cX5_dependents 20 = .ok (.iconst 0, 1) := by decide +kernel
theorem dX5_dependents_21 : decode cX5_dependents 21 = .ok (.istore 5, 2) := by decide +kernel
theorem dX5_dependents_23 : decode cX5_dependents 23 = .ok (.iload 5, 2) := by decide +kernel
theorem dX5_dependents_25 : decode cX5_dependents 25 = .ok (.aload_n 3, 1) := by decide +kernel
theorem dX5_dependents_26 : decode cX5_dependents 26 = .ok (.getfield 91, 3) := by decide +kernel
theorem dX5_dependents_29 : decode cX5_dependents 29 = .ok (.if_icmp .ge 57, 3) := by decide +kernel
theorem dX5_dependents_32 : decode cX5_dependents 32 = .ok (.iload_n 2, 1) := by decide +kernel
theorem dX5_dependents_33 : decode cX5_dependents 33 = .ok (.ifCond .eq 21, 3) := by decide +kernel
theorem dX5_dependents_36 : decode cX5_dependents 36 = .ok (.aload_n 3, 1) := by decide +kernel
theorem dX5_dependents_37 : decode cX5_dependents 37 = .ok (.iload 5, 2) := by decide +kernel
theorem dX5_dependents_39 : decode cX5_dependents 39 = .ok (.iload_n 1, 1) := by decide +kernel
theorem dX5_dependents_40 : decode cX5_dependents 40 = .ok (.invokevirtual 137, 3) := by decide +kernel
theorem dX5_dependents_43 : decode cX5_dependents 43 = .ok (.ifCond .le 7, 3) := by decide +kernel
theorem dX5_dependents_46 : decode cX5_dependents 46 = .ok (.iconst 1, 1) := by decide +kernel
theorem dX5_dependents_47 : decode cX5_dependents 47 = .ok (.goto 23, 3) := by decide +kernel
theorem dX5_dependents_50 : decode cX5_dependents 50 = .ok (.iconst 0, 1) := by decide +kernel
theorem dX5_dependents_51 : decode cX5_dependents 51 = .ok (.goto 19, 3) := by decide +kernel
theorem dX5_dependents_54 : decode cX5_dependents 54 = .ok (.aload_n 3, 1) := by decide +kernel
theorem dX5_dependents_55 : decode cX5_dependents 55 = .ok (.getfield 121, 3) := by decide +kernel
theorem dX5_dependents_58 : decode cX5_dependents 58 = .ok (.iload 5, 2) := by decide +kernel
theorem dX5_dependents_60 : decode cX5_dependents 60 = .ok (.iaload, 1) := by decide +kernel
theorem dX5_dependents_61 : decode cX5_dependents 61 = .ok (.iload_n 1, 1) := by decide +kernel
theorem dX5_dependents_62 : decode cX5_dependents 62 = .ok (.if_icmp .ne 7, 3) := by decide +kernel
theorem dX5_dependents_65 : decode cX5_dependents 65 = .ok (.iconst 1, 1) := by decide +kernel
theorem dX5_dependents_66 : decode cX5_dependents 66 = .ok (.goto 4, 3) := by decide +kernel
theorem dX5_dependents_69 : decode cX5_dependents 69 = .ok (.iconst 0, 1) := by decide +kernel
theorem dX5_dependents_70 : decode cX5_dependents 70 = .ok (.istore 6, 2) := by decide +kernel
theorem dX5_dependents_72 : decode cX5_dependents 72 = .ok (.iload 6, 2) := by decide +kernel
theorem dX5_dependents_74 : decode cX5_dependents 74 = .ok (.ifCond .eq 6, 3) := by decide +kernel
theorem dX5_dependents_77 : decode cX5_dependents 77 = .ok (.iinc 4 1, 3) := by decide +kernel
theorem dX5_dependents_80 : decode cX5_dependents 80 = .ok (.iinc 5 1, 3) := by decide +kernel
theorem dX5_dependents_83 : decode cX5_dependents 83 = .ok (.goto (-60), 3) := by decide +kernel
theorem dX5_dependents_86 : decode cX5_dependents 86 = .ok (.iload 4, 2) := by decide +kernel
theorem dX5_dependents_88 : decode cX5_dependents 88 = .ok (.ireturn, 1) := by decide +kernel
theorem dX5_owed_0 : decode cX5_owed 0 = .ok (.aload_n 0, 1) := by decide +kernel
theorem dX5_owed_1 : decode cX5_owed 1 = .ok (.invokevirtual 100, 3) := by decide +kernel
theorem dX5_owed_4 : decode cX5_owed 4 = .ok (.aload_n 0, 1) := by decide +kernel
theorem dX5_owed_5 : decode cX5_owed 5 = .ok (.getfield 10, 3) := by decide +kernel
theorem dX5_owed_8 : decode cX5_owed 8 = .ok (.getfield 74, 3) := by decide +kernel
theorem dX5_owed_11 : decode cX5_owed 11 = .ok (.invokevirtual 141, 3) := by decide +kernel
theorem dX5_owed_14 : decode cX5_owed 14 = .ok (.ireturn, 1) := by decide +kernel
theorem dX5_owedIn_0 : decode cX5_owedIn 0 = .ok (.aload_n 0, 1) := by decide +kernel
theorem dX5_owedIn_1 : decode cX5_owedIn 1 = .ok (.invokevirtual 100, 3) := by decide +kernel
theorem dX5_owedIn_4 : decode cX5_owedIn 4 = .ok (.aload_n 0, 1) := by decide +kernel
theorem dX5_owedIn_5 : decode cX5_owedIn 5 = .ok (.iload_n 1, 1) := by decide +kernel
theorem dX5_owedIn_6 : decode cX5_owedIn 6 = .ok (.iload_n 2, 1) := by decide +kernel
theorem dX5_owedIn_7 : decode cX5_owedIn 7 = .ok (.invokevirtual 145, 3) := by decide +kernel
theorem dX5_owedIn_10 : decode cX5_owedIn 10 = .ok (.aload_n 0, 1) := by decide +kernel
theorem dX5_owedIn_11 : decode cX5_owedIn 11 = .ok (.getfield 10, 3) := by decide +kernel
theorem dX5_owedIn_14 : decode cX5_owedIn 14 = .ok (.getfield 74, 3) := by decide +kernel
theorem dX5_owedIn_17 : decode cX5_owedIn 17 = .ok (.iload_n 1, 1) := by decide +kernel
theorem dX5_owedIn_18 : decode cX5_owedIn 18 = .ok (.iload_n 2, 1) := by decide +kernel
theorem dX5_owedIn_19 : decode cX5_owedIn 19 = .ok (.invokevirtual 148, 3) := by decide +kernel
theorem dX5_owedIn_22 : decode cX5_owedIn 22 = .ok (.ireturn, 1) := by decide +kernel
theorem dX5_firstOwed_0 : decode cX5_firstOwed 0 = .ok (.aload_n 0, 1) := by decide +kernel
theorem dX5_firstOwed_1 : decode cX5_firstOwed 1 = .ok (.invokevirtual 100, 3) := by decide +kernel
theorem dX5_firstOwed_4 : decode cX5_firstOwed 4 = .ok (.aload_n 0, 1) := by decide +kernel
theorem dX5_firstOwed_5 : decode cX5_firstOwed 5 = .ok (.iload_n 1, 1) := by decide +kernel
theorem dX5_firstOwed_6 : decode cX5_firstOwed 6 = .ok (.invokevirtual 111, 3) := by decide +kernel
theorem dX5_firstOwed_9 : decode cX5_firstOwed 9 = .ok (.aload_n 0, 1) := by decide +kernel
theorem dX5_firstOwed_10 : decode cX5_firstOwed 10 = .ok (.getfield 10, 3) := by decide +kernel
theorem dX5_firstOwed_13 : decode cX5_firstOwed 13 = .ok (.getfield 74, 3) := by decide +kernel
theorem dX5_firstOwed_16 : decode cX5_firstOwed 16 = .ok (.astore_n 2, 1) := by decide +kernel
theorem dX5_firstOwed_17 : decode cX5_firstOwed 17 = .ok (.iload_n 1, 1) := by decide +kernel
theorem dX5_firstOwed_18 : decode cX5_firstOwed 18 = .ok (.istore_n 3, 1) := by decide +kernel
theorem dX5_firstOwed_19 : decode cX5_firstOwed 19 = .ok (.iload_n 3, 1) := by decide +kernel
theorem dX5_firstOwed_20 : decode cX5_firstOwed 20 = .ok (.aload_n 2, 1) := by decide +kernel
theorem dX5_firstOwed_21 : decode cX5_firstOwed 21 = .ok (.getfield 91, 3) := by decide +kernel
theorem dX5_firstOwed_24 : decode cX5_firstOwed 24 = .ok (.if_icmp .ge 19, 3) := by decide +kernel
theorem dX5_firstOwed_27 : decode cX5_firstOwed 27 = .ok (.aload_n 2, 1) := by decide +kernel
theorem dX5_firstOwed_28 : decode cX5_firstOwed 28 = .ok (.iload_n 3, 1) := by decide +kernel
theorem dX5_firstOwed_29 : decode cX5_firstOwed 29 = .ok (.invokevirtual 151, 3) := by decide +kernel
theorem dX5_firstOwed_32 : decode cX5_firstOwed 32 = .ok (.ifCond .eq 5, 3) := by decide +kernel
theorem dX5_firstOwed_35 : decode cX5_firstOwed 35 = .ok (.iload_n 3, 1) := by decide +kernel
theorem dX5_firstOwed_36 : decode cX5_firstOwed 36 = .ok (.ireturn, 1) := by decide +kernel
theorem dX5_firstOwed_37 : decode cX5_firstOwed 37 = .ok (.iinc 3 1, 3) := by decide +kernel
theorem dX5_firstOwed_40 : decode cX5_firstOwed 40 = .ok (.goto (-21), 3) := by decide +kernel
theorem dX5_firstOwed_43 : decode cX5_firstOwed 43 = .ok (.iconst (-1), 1) := by decide +kernel
theorem dX5_firstOwed_44 : decode cX5_firstOwed 44 = .ok (.ireturn, 1) := by decide +kernel
theorem dX5_debts_0 : decode cX5_debts 0 = .ok (.aload_n 0, 1) := by decide +kernel
theorem dX5_debts_1 : decode cX5_debts 1 = .ok (.invokevirtual 100, 3) := by decide +kernel
theorem dX5_debts_4 : decode cX5_debts 4 = .ok (.aload_n 0, 1) := by decide +kernel
theorem dX5_debts_5 : decode cX5_debts 5 = .ok (.getfield 10, 3) := by decide +kernel
theorem dX5_debts_8 : decode cX5_debts 8 = .ok (.getfield 74, 3) := by decide +kernel
theorem dX5_debts_11 : decode cX5_debts 11 = .ok (.astore_n 1, 1) := by decide +kernel
theorem dX5_debts_12 : decode cX5_debts 12 = .ok (.iconst 0, 1) := by decide +kernel
theorem dX5_debts_13 : decode cX5_debts 13 = .ok (.istore_n 2, 1) := by decide +kernel
theorem dX5_debts_14 : decode cX5_debts 14 = .ok (.iconst 0, 1) := by decide +kernel
theorem dX5_debts_15 : decode cX5_debts 15 = .ok (.istore_n 3, 1) := by decide +kernel
theorem dX5_debts_16 : decode cX5_debts 16 = .ok (.iload_n 3, 1) := by decide +kernel
theorem dX5_debts_17 : decode cX5_debts 17 = .ok (.aload_n 1, 1) := by decide +kernel
theorem dX5_debts_18 : decode cX5_debts 18 = .ok (.getfield 91, 3) := by decide +kernel
theorem dX5_debts_21 : decode cX5_debts 21 = .ok (.if_icmp .ge 20, 3) := by decide +kernel
theorem dX5_debts_24 : decode cX5_debts 24 = .ok (.aload_n 1, 1) := by decide +kernel
theorem dX5_debts_25 : decode cX5_debts 25 = .ok (.iload_n 3, 1) := by decide +kernel
theorem dX5_debts_26 : decode cX5_debts 26 = .ok (.invokevirtual 154, 3) := by decide +kernel
theorem dX5_debts_29 : decode cX5_debts 29 = .ok (.ifCond .eq 6, 3) := by decide +kernel
theorem dX5_debts_32 : decode cX5_debts 32 = .ok (.iinc 2 1, 3) := by decide +kernel
theorem dX5_debts_35 : decode cX5_debts 35 = .ok (.iinc 3 1, 3) := by decide +kernel
theorem dX5_debts_38 : decode cX5_debts 38 = .ok (.goto (-22), 3) := by decide +kernel
theorem dX5_debts_41 : decode cX5_debts 41 = .ok (.iload_n 2, 1) := by decide +kernel
theorem dX5_debts_42 : decode cX5_debts 42 = .ok (.ireturn, 1) := by decide +kernel
theorem dX5_debt_0 : decode cX5_debt 0 = .ok (.aload_n 0, 1) := by decide +kernel
theorem dX5_debt_1 : decode cX5_debt 1 = .ok (.invokevirtual 100, 3) := by decide +kernel
theorem dX5_debt_4 : decode cX5_debt 4 = .ok (.aload_n 0, 1) := by decide +kernel
theorem dX5_debt_5 : decode cX5_debt 5 = .ok (.getfield 10, 3) := by decide +kernel
theorem dX5_debt_8 : decode cX5_debt 8 = .ok (.getfield 74, 3) := by decide +kernel
theorem dX5_debt_11 : decode cX5_debt 11 = .ok (.astore_n 3, 1) := by decide +kernel
theorem dX5_debt_12 : decode cX5_debt 12 = .ok (.aload_n 3, 1) := by decide +kernel
theorem dX5_debt_13 : decode cX5_debt 13 = .ok (.iload_n 1, 1) := by decide +kernel
theorem dX5_debt_14 : decode cX5_debt 14 = .ok (.invokevirtual 157, 3) := by decide +kernel
theorem dX5_debt_17 : decode cX5_debt 17 = .ok (.istore 4, 2) := by decide +kernel
theorem dX5_debt_19 : decode cX5_debt 19 = .ok (.iload 4, 2) := by decide +kernel
theorem dX5_debt_21 : decode cX5_debt 21 = .ok (.iconst (-1), 1) := by decide +kernel
theorem dX5_debt_22 : decode cX5_debt 22 = .ok (.if_icmp .ne 13, 3) := by decide +kernel
theorem dX5_debt_25 : decode cX5_debt 25 = .ok (.new 59, 3) := by decide +kernel
theorem dX5_debt_28 : decode cX5_debt 28 = .ok (.dup, 1) := by decide +kernel
theorem dX5_debt_29 : decode cX5_debt 29 = .ok (.ldc 160, 2) := by decide +kernel
theorem dX5_debt_31 : decode cX5_debt 31 = .ok (.invokespecial 63, 3) := by decide +kernel
theorem dX5_debt_34 : decode cX5_debt 34 = .ok (.athrow, 1) := by decide +kernel
theorem dX5_debt_35 : decode cX5_debt 35 = .ok (.iload_n 2, 1) := by decide +kernel
theorem dX5_debt_36 : decode cX5_debt 36 = .ok (.tableswitch 58 0 3 #[32, 35, 43, 50], 32) := by decide +kernel
theorem dX5_debt_68 : decode cX5_debt 68 = .ok (.iload 4, 2) := by decide +kernel
theorem dX5_debt_70 : decode cX5_debt 70 = .ok (.ireturn, 1) := by decide +kernel
theorem dX5_debt_71 : decode cX5_debt 71 = .ok (.aload_n 3, 1) := by decide +kernel
theorem dX5_debt_72 : decode cX5_debt 72 = .ok (.getfield 121, 3) := by decide +kernel
theorem dX5_debt_75 : decode cX5_debt 75 = .ok (.iload 4, 2) := by decide +kernel
theorem dX5_debt_77 : decode cX5_debt 77 = .ok (.iaload, 1) := by decide +kernel
theorem dX5_debt_78 : decode cX5_debt 78 = .ok (.ireturn, 1) := by decide +kernel
theorem dX5_debt_79 : decode cX5_debt 79 = .ok (.aload_n 3, 1) := by decide +kernel
theorem dX5_debt_80 : decode cX5_debt 80 = .ok (.iload 4, 2) := by decide +kernel
theorem dX5_debt_82 : decode cX5_debt 82 = .ok (.invokevirtual 162, 3) := by decide +kernel
theorem dX5_debt_85 : decode cX5_debt 85 = .ok (.ireturn, 1) := by decide +kernel
theorem dX5_debt_86 : decode cX5_debt 86 = .ok (.aload_n 3, 1) := by decide +kernel
theorem dX5_debt_87 : decode cX5_debt 87 = .ok (.getfield 124, 3) := by decide +kernel
theorem dX5_debt_90 : decode cX5_debt 90 = .ok (.iload 4, 2) := by decide +kernel
theorem dX5_debt_92 : decode cX5_debt 92 = .ok (.iaload, 1) := by decide +kernel
theorem dX5_debt_93 : decode cX5_debt 93 = .ok (.ireturn, 1) := by decide +kernel
theorem dX5_debt_94 : decode cX5_debt 94 = .ok (.new 69, 3) := by decide +kernel
theorem dX5_debt_97 : decode cX5_debt 97 = .ok (.dup, 1) := by decide +kernel
theorem dX5_debt_98 : decode cX5_debt 98 = .ok (.ldc 165, 2) := by decide +kernel
theorem dX5_debt_100 : decode cX5_debt 100 = .ok (.invokespecial 73, 3) := by decide +kernel
theorem dX5_debt_103 : decode cX5_debt 103 = .ok (.athrow, 1) := by decide +kernel
theorem dX5_most_0 : decode cX5_most 0 = .ok (.aload_n 0, 1) := by decide +kernel
theorem dX5_most_1 : decode cX5_most 1 = .ok (.invokevirtual 100, 3) := by decide +kernel
theorem dX5_most_4 : decode cX5_most 4 = .ok (.aload_n 0, 1) := by decide +kernel
theorem dX5_most_5 : decode cX5_most 5 = .ok (.getfield 10, 3) := by decide +kernel
theorem dX5_most_8 : decode cX5_most 8 = .ok (.iconst 2, 1) := by decide +kernel
theorem dX5_most_9 : decode cX5_most 9 = .ok (.invokevirtual 167, 3) := by decide +kernel
theorem dX5_most_12 : decode cX5_most 12 = .ok (.istore_n 1, 1) := by decide +kernel
theorem dX5_most_13 : decode cX5_most 13 = .ok (.iload_n 1, 1) := by decide +kernel
theorem dX5_most_14 : decode cX5_most 14 = .ok (.iconst (-1), 1) := by decide +kernel
theorem dX5_most_15 : decode cX5_most 15 = .ok (.if_icmp .ne 7, 3) := by decide +kernel
theorem dX5_most_18 : decode cX5_most 18 = .ok (.iconst 0, 1) := by decide +kernel
theorem dX5_most_19 : decode cX5_most 19 = .ok (.goto 14, 3) := by decide +kernel
theorem dX5_most_22 : decode cX5_most 22 = .ok (.aload_n 0, 1) := by decide +kernel
theorem dX5_most_23 : decode cX5_most 23 = .ok (.getfield 10, 3) := by decide +kernel
theorem dX5_most_26 : decode cX5_most 26 = .ok (.getfield 74, 3) := by decide +kernel
theorem dX5_most_29 : decode cX5_most 29 = .ok (.iload_n 1, 1) := by decide +kernel
theorem dX5_most_30 : decode cX5_most 30 = .ok (.invokevirtual 127, 3) := by decide +kernel
theorem dX5_most_33 : decode cX5_most 33 = .ok (.ireturn, 1) := by decide +kernel
theorem dX5_deepest_0 : decode cX5_deepest 0 = .ok (.aload_n 0, 1) := by decide +kernel
theorem dX5_deepest_1 : decode cX5_deepest 1 = .ok (.invokevirtual 100, 3) := by decide +kernel
theorem dX5_deepest_4 : decode cX5_deepest 4 = .ok (.aload_n 0, 1) := by decide +kernel
theorem dX5_deepest_5 : decode cX5_deepest 5 = .ok (.getfield 10, 3) := by decide +kernel
theorem dX5_deepest_8 : decode cX5_deepest 8 = .ok (.iconst 2, 1) := by decide +kernel
theorem dX5_deepest_9 : decode cX5_deepest 9 = .ok (.invokevirtual 167, 3) := by decide +kernel
theorem dX5_deepest_12 : decode cX5_deepest 12 = .ok (.ireturn, 1) := by decide +kernel
theorem dX5_distance_0 : decode cX5_distance 0 = .ok (.aload_n 0, 1) := by decide +kernel
theorem dX5_distance_1 : decode cX5_distance 1 = .ok (.invokevirtual 100, 3) := by decide +kernel
theorem dX5_distance_4 : decode cX5_distance 4 = .ok (.aload_n 0, 1) := by decide +kernel
theorem dX5_distance_5 : decode cX5_distance 5 = .ok (.iload_n 1, 1) := by decide +kernel
theorem dX5_distance_6 : decode cX5_distance 6 = .ok (.invokevirtual 111, 3) := by decide +kernel
theorem dX5_distance_9 : decode cX5_distance 9 = .ok (.aload_n 0, 1) := by decide +kernel
theorem dX5_distance_10 : decode cX5_distance 10 = .ok (.iload_n 2, 1) := by decide +kernel
theorem dX5_distance_11 : decode cX5_distance 11 = .ok (.invokevirtual 111, 3) := by decide +kernel
theorem dX5_distance_14 : decode cX5_distance 14 = .ok (.aload_n 0, 1) := by decide +kernel
theorem dX5_distance_15 : decode cX5_distance 15 = .ok (.getfield 10, 3) := by decide +kernel
theorem dX5_distance_18 : decode cX5_distance 18 = .ok (.getfield 74, 3) := by decide +kernel
theorem dX5_distance_21 : decode cX5_distance 21 = .ok (.iload_n 1, 1) := by decide +kernel
theorem dX5_distance_22 : decode cX5_distance 22 = .ok (.iload_n 2, 1) := by decide +kernel
theorem dX5_distance_23 : decode cX5_distance 23 = .ok (.invokevirtual 137, 3) := by decide +kernel
theorem dX5_distance_26 : decode cX5_distance 26 = .ok (.ireturn, 1) := by decide +kernel
theorem dX5_oldest_0 : decode cX5_oldest 0 = .ok (.aload_n 0, 1) := by decide +kernel
theorem dX5_oldest_1 : decode cX5_oldest 1 = .ok (.invokevirtual 100, 3) := by decide +kernel
theorem dX5_oldest_4 : decode cX5_oldest 4 = .ok (.aload_n 0, 1) := by decide +kernel
theorem dX5_oldest_5 : decode cX5_oldest 5 = .ok (.getfield 10, 3) := by decide +kernel
theorem dX5_oldest_8 : decode cX5_oldest 8 = .ok (.iconst 0, 1) := by decide +kernel
theorem dX5_oldest_9 : decode cX5_oldest 9 = .ok (.invokevirtual 167, 3) := by decide +kernel
theorem dX5_oldest_12 : decode cX5_oldest 12 = .ok (.istore_n 1, 1) := by decide +kernel
theorem dX5_oldest_13 : decode cX5_oldest 13 = .ok (.iload_n 1, 1) := by decide +kernel
theorem dX5_oldest_14 : decode cX5_oldest 14 = .ok (.iconst (-1), 1) := by decide +kernel
theorem dX5_oldest_15 : decode cX5_oldest 15 = .ok (.if_icmp .ne 7, 3) := by decide +kernel
theorem dX5_oldest_18 : decode cX5_oldest 18 = .ok (.iconst (-1), 1) := by decide +kernel
theorem dX5_oldest_19 : decode cX5_oldest 19 = .ok (.goto 15, 3) := by decide +kernel
theorem dX5_oldest_22 : decode cX5_oldest 22 = .ok (.aload_n 0, 1) := by decide +kernel
theorem dX5_oldest_23 : decode cX5_oldest 23 = .ok (.getfield 10, 3) := by decide +kernel
theorem dX5_oldest_26 : decode cX5_oldest 26 = .ok (.getfield 74, 3) := by decide +kernel
theorem dX5_oldest_29 : decode cX5_oldest 29 = .ok (.getfield 124, 3) := by decide +kernel
theorem dX5_oldest_32 : decode cX5_oldest 32 = .ok (.iload_n 1, 1) := by decide +kernel
theorem dX5_oldest_33 : decode cX5_oldest 33 = .ok (.iaload, 1) := by decide +kernel
theorem dX5_oldest_34 : decode cX5_oldest 34 = .ok (.ireturn, 1) := by decide +kernel
theorem dX5_creditors_0 : decode cX5_creditors 0 = .ok (.aload_n 0, 1) := by decide +kernel
theorem dX5_creditors_1 : decode cX5_creditors 1 = .ok (.invokevirtual 100, 3) := by decide +kernel
theorem dX5_creditors_4 : decode cX5_creditors 4 = .ok (.aload_n 0, 1) := by decide +kernel
theorem dX5_creditors_5 : decode cX5_creditors 5 = .ok (.getfield 10, 3) := by decide +kernel
theorem dX5_creditors_8 : decode cX5_creditors 8 = .ok (.getfield 74, 3) := by decide +kernel
theorem dX5_creditors_11 : decode cX5_creditors 11 = .ok (.astore_n 1, 1) := by decide +kernel
theorem dX5_creditors_12 : decode cX5_creditors 12 = .ok (.iconst 0, 1) := by decide +kernel
theorem dX5_creditors_13 : decode cX5_creditors 13 = .ok (.istore_n 2, 1) := by decide +kernel
theorem dX5_creditors_14 : decode cX5_creditors 14 = .ok (.iconst 0, 1) := by decide +kernel
theorem dX5_creditors_15 : decode cX5_creditors 15 = .ok (.istore_n 3, 1) := by decide +kernel
theorem dX5_creditors_16 : decode cX5_creditors 16 = .ok (.iload_n 3, 1) := by decide +kernel
theorem dX5_creditors_17 : decode cX5_creditors 17 = .ok (.aload_n 1, 1) := by decide +kernel
theorem dX5_creditors_18 : decode cX5_creditors 18 = .ok (.getfield 91, 3) := by decide +kernel
theorem dX5_creditors_21 : decode cX5_creditors 21 = .ok (.if_icmp .ge 20, 3) := by decide +kernel
theorem dX5_creditors_24 : decode cX5_creditors 24 = .ok (.aload_n 1, 1) := by decide +kernel
theorem dX5_creditors_25 : decode cX5_creditors 25 = .ok (.iload_n 3, 1) := by decide +kernel
theorem dX5_creditors_26 : decode cX5_creditors 26 = .ok (.invokevirtual 170, 3) := by decide +kernel
theorem dX5_creditors_29 : decode cX5_creditors 29 = .ok (.ifCond .eq 6, 3) := by decide +kernel
theorem dX5_creditors_32 : decode cX5_creditors 32 = .ok (.iinc 2 1, 3) := by decide +kernel
theorem dX5_creditors_35 : decode cX5_creditors 35 = .ok (.iinc 3 1, 3) := by decide +kernel
theorem dX5_creditors_38 : decode cX5_creditors 38 = .ok (.goto (-22), 3) := by decide +kernel
theorem dX5_creditors_41 : decode cX5_creditors 41 = .ok (.iload_n 2, 1) := by decide +kernel
theorem dX5_creditors_42 : decode cX5_creditors 42 = .ok (.ireturn, 1) := by decide +kernel
theorem dX5_next_0 : decode cX5_next 0 = .ok (.aload_n 0, 1) := by decide +kernel
theorem dX5_next_1 : decode cX5_next 1 = .ok (.invokevirtual 100, 3) := by decide +kernel
theorem dX5_next_4 : decode cX5_next 4 = .ok (.aload_n 0, 1) := by decide +kernel
theorem dX5_next_5 : decode cX5_next 5 = .ok (.getfield 10, 3) := by decide +kernel
theorem dX5_next_8 : decode cX5_next 8 = .ok (.aload_n 0, 1) := by decide +kernel
theorem dX5_next_9 : decode cX5_next 9 = .ok (.getfield 10, 3) := by decide +kernel
theorem dX5_next_12 : decode cX5_next 12 = .ok (.getfield 74, 3) := by decide +kernel
theorem dX5_next_15 : decode cX5_next 15 = .ok (.getfield 107, 3) := by decide +kernel
theorem dX5_next_18 : decode cX5_next 18 = .ok (.iconst 2, 1) := by decide +kernel
theorem dX5_next_19 : decode cX5_next 19 = .ok (.iaload, 1) := by decide +kernel
theorem dX5_next_20 : decode cX5_next 20 = .ok (.invokevirtual 167, 3) := by decide +kernel
theorem dX5_next_23 : decode cX5_next 23 = .ok (.ireturn, 1) := by decide +kernel
theorem dX5_stale_0 : decode cX5_stale 0 = .ok (.aload_n 0, 1) := by decide +kernel
theorem dX5_stale_1 : decode cX5_stale 1 = .ok (.invokevirtual 100, 3) := by decide +kernel
theorem dX5_stale_4 : decode cX5_stale 4 = .ok (.aload_n 0, 1) := by decide +kernel
theorem dX5_stale_5 : decode cX5_stale 5 = .ok (.getfield 10, 3) := by decide +kernel
theorem dX5_stale_8 : decode cX5_stale 8 = .ok (.getfield 74, 3) := by decide +kernel
theorem dX5_stale_11 : decode cX5_stale 11 = .ok (.astore_n 1, 1) := by decide +kernel
theorem dX5_stale_12 : decode cX5_stale 12 = .ok (.iconst 0, 1) := by decide +kernel
theorem dX5_stale_13 : decode cX5_stale 13 = .ok (.istore_n 2, 1) := by decide +kernel
theorem dX5_stale_14 : decode cX5_stale 14 = .ok (.iconst 0, 1) := by decide +kernel
theorem dX5_stale_15 : decode cX5_stale 15 = .ok (.istore_n 3, 1) := by decide +kernel
theorem dX5_stale_16 : decode cX5_stale 16 = .ok (.iload_n 3, 1) := by decide +kernel
theorem dX5_stale_17 : decode cX5_stale 17 = .ok (.aload_n 1, 1) := by decide +kernel
theorem dX5_stale_18 : decode cX5_stale 18 = .ok (.getfield 91, 3) := by decide +kernel
theorem dX5_stale_21 : decode cX5_stale 21 = .ok (.if_icmp .ge 26, 3) := by decide +kernel
theorem dX5_stale_24 : decode cX5_stale 24 = .ok (.aload_n 1, 1) := by decide +kernel
theorem dX5_stale_25 : decode cX5_stale 25 = .ok (.getfield 114, 3) := by decide +kernel
theorem dX5_stale_28 : decode cX5_stale 28 = .ok (.iload_n 3, 1) := by decide +kernel
theorem dX5_stale_29 : decode cX5_stale 29 = .ok (.iaload, 1) := by decide +kernel
theorem dX5_stale_30 : decode cX5_stale 30 = .ok (.aload_n 1, 1) := by decide +kernel
theorem dX5_stale_31 : decode cX5_stale 31 = .ok (.iload_n 3, 1) := by decide +kernel
theorem dX5_stale_32 : decode cX5_stale 32 = .ok (.invokevirtual 117, 3) := by decide +kernel
theorem dX5_stale_35 : decode cX5_stale 35 = .ok (.if_icmp .eq 6, 3) := by decide +kernel
theorem dX5_stale_38 : decode cX5_stale 38 = .ok (.iinc 2 1, 3) := by decide +kernel
theorem dX5_stale_41 : decode cX5_stale 41 = .ok (.iinc 3 1, 3) := by decide +kernel
theorem dX5_stale_44 : decode cX5_stale 44 = .ok (.goto (-28), 3) := by decide +kernel
theorem dX5_stale_47 : decode cX5_stale 47 = .ok (.iload_n 2, 1) := by decide +kernel
theorem dX5_stale_48 : decode cX5_stale 48 = .ok (.ireturn, 1) := by decide +kernel
theorem dX5_sum_0 : decode cX5_sum 0 = .ok (.aload_n 0, 1) := by decide +kernel
theorem dX5_sum_1 : decode cX5_sum 1 = .ok (.invokevirtual 100, 3) := by decide +kernel
theorem dX5_sum_4 : decode cX5_sum 4 = .ok (.aload_n 0, 1) := by decide +kernel
theorem dX5_sum_5 : decode cX5_sum 5 = .ok (.iload_n 1, 1) := by decide +kernel
theorem dX5_sum_6 : decode cX5_sum 6 = .ok (.iload_n 2, 1) := by decide +kernel
theorem dX5_sum_7 : decode cX5_sum 7 = .ok (.invokevirtual 145, 3) := by decide +kernel
theorem dX5_sum_10 : decode cX5_sum 10 = .ok (.iconst 0, 1) := by decide +kernel
theorem dX5_sum_11 : decode cX5_sum 11 = .ok (.istore_n 3, 1) := by decide +kernel
theorem dX5_sum_12 : decode cX5_sum 12 = .ok (.iload_n 1, 1) := by decide +kernel
theorem dX5_sum_13 : decode cX5_sum 13 = .ok (.istore 4, 2) := by decide +kernel
theorem dX5_sum_15 : decode cX5_sum 15 = .ok (.iload 4, 2) := by decide +kernel
theorem dX5_sum_17 : decode cX5_sum 17 = .ok (.iload_n 2, 1) := by decide +kernel
theorem dX5_sum_18 : decode cX5_sum 18 = .ok (.if_icmp .gt 24, 3) := by decide +kernel
theorem dX5_sum_21 : decode cX5_sum 21 = .ok (.iload_n 3, 1) := by decide +kernel
theorem dX5_sum_22 : decode cX5_sum 22 = .ok (.aload_n 0, 1) := by decide +kernel
theorem dX5_sum_23 : decode cX5_sum 23 = .ok (.getfield 10, 3) := by decide +kernel
theorem dX5_sum_26 : decode cX5_sum 26 = .ok (.getfield 74, 3) := by decide +kernel
theorem dX5_sum_29 : decode cX5_sum 29 = .ok (.iload 4, 2) := by decide +kernel
theorem dX5_sum_31 : decode cX5_sum 31 = .ok (.invokevirtual 117, 3) := by decide +kernel
theorem dX5_sum_34 : decode cX5_sum 34 = .ok (.iadd, 1) := by decide +kernel
theorem dX5_sum_35 : decode cX5_sum 35 = .ok (.istore_n 3, 1) := by decide +kernel
theorem dX5_sum_36 : decode cX5_sum 36 = .ok (.iinc 4 1, 3) := by decide +kernel
theorem dX5_sum_39 : decode cX5_sum 39 = .ok (.goto (-24), 3) := by decide +kernel
theorem dX5_sum_42 : decode cX5_sum 42 = .ok (.iload_n 3, 1) := by decide +kernel
theorem dX5_sum_43 : decode cX5_sum 43 = .ok (.ireturn, 1) := by decide +kernel
theorem dX5_find_0 : decode cX5_find 0 = .ok (.aload_n 0, 1) := by decide +kernel
theorem dX5_find_1 : decode cX5_find 1 = .ok (.invokevirtual 100, 3) := by decide +kernel
theorem dX5_find_4 : decode cX5_find 4 = .ok (.aload_n 0, 1) := by decide +kernel
theorem dX5_find_5 : decode cX5_find 5 = .ok (.iload_n 2, 1) := by decide +kernel
theorem dX5_find_6 : decode cX5_find 6 = .ok (.invokevirtual 111, 3) := by decide +kernel
theorem dX5_find_9 : decode cX5_find 9 = .ok (.aload_n 0, 1) := by decide +kernel
theorem dX5_find_10 : decode cX5_find 10 = .ok (.iload_n 1, 1) := by decide +kernel
theorem dX5_find_11 : decode cX5_find 11 = .ok (.invokevirtual 173, 3) := by decide +kernel
theorem dX5_find_14 : decode cX5_find 14 = .ok (.aload_n 0, 1) := by decide +kernel
theorem dX5_find_15 : decode cX5_find 15 = .ok (.getfield 10, 3) := by decide +kernel
theorem dX5_find_18 : decode cX5_find 18 = .ok (.getfield 74, 3) := by decide +kernel
theorem dX5_find_21 : decode cX5_find 21 = .ok (.astore_n 3, 1) := by decide +kernel
theorem dX5_find_22 : decode cX5_find 22 = .ok (.iload_n 2, 1) := by decide +kernel
theorem dX5_find_23 : decode cX5_find 23 = .ok (.istore 4, 2) := by decide +kernel
theorem dX5_find_25 : decode cX5_find 25 = .ok (.iload 4, 2) := by decide +kernel
theorem dX5_find_27 : decode cX5_find 27 = .ok (.aload_n 3, 1) := by decide +kernel
theorem dX5_find_28 : decode cX5_find 28 = .ok (.getfield 91, 3) := by decide +kernel
theorem dX5_find_31 : decode cX5_find 31 = .ok (.if_icmp .ge 22, 3) := by decide +kernel
theorem dX5_find_34 : decode cX5_find 34 = .ok (.aload_n 3, 1) := by decide +kernel
theorem dX5_find_35 : decode cX5_find 35 = .ok (.iload 4, 2) := by decide +kernel
theorem dX5_find_37 : decode cX5_find 37 = .ok (.invokevirtual 117, 3) := by decide +kernel
theorem dX5_find_40 : decode cX5_find 40 = .ok (.iload_n 1, 1) := by decide +kernel
theorem dX5_find_41 : decode cX5_find 41 = .ok (.if_icmp .ne 6, 3) := by decide +kernel
theorem dX5_find_44 : decode cX5_find 44 = .ok (.iload 4, 2) := by decide +kernel
theorem dX5_find_46 : decode cX5_find 46 = .ok (.ireturn, 1) := by decide +kernel
theorem dX5_find_47 : decode cX5_find 47 = .ok (.iinc 4 1, 3) := by decide +kernel
theorem dX5_find_50 : decode cX5_find 50 = .ok (.goto (-25), 3) := by decide +kernel
theorem dX5_find_53 : decode cX5_find 53 = .ok (.iconst (-1), 1) := by decide +kernel
theorem dX5_find_54 : decode cX5_find 54 = .ok (.ireturn, 1) := by decide +kernel
theorem dX5_same_0 : decode cX5_same 0 = .ok (.aload_n 0, 1) := by decide +kernel
theorem dX5_same_1 : decode cX5_same 1 = .ok (.invokevirtual 100, 3) := by decide +kernel
theorem dX5_same_4 : decode cX5_same 4 = .ok (.aload_n 0, 1) := by decide +kernel
theorem dX5_same_5 : decode cX5_same 5 = .ok (.iload_n 1, 1) := by decide +kernel
theorem dX5_same_6 : decode cX5_same 6 = .ok (.invokevirtual 111, 3) := by decide +kernel
theorem dX5_same_9 : decode cX5_same 9 = .ok (.aload_n 0, 1) := by decide +kernel
theorem dX5_same_10 : decode cX5_same 10 = .ok (.iload_n 2, 1) := by decide +kernel
theorem dX5_same_11 : decode cX5_same 11 = .ok (.invokevirtual 111, 3) := by decide +kernel
theorem dX5_same_14 : decode cX5_same 14 = .ok (.aload_n 0, 1) := by decide +kernel
theorem dX5_same_15 : decode cX5_same 15 = .ok (.getfield 10, 3) := by decide +kernel
theorem dX5_same_18 : decode cX5_same 18 = .ok (.getfield 74, 3) := by decide +kernel
theorem dX5_same_21 : decode cX5_same 21 = .ok (.astore 4, 2) := by decide +kernel
theorem dX5_same_23 : decode cX5_same 23 = .ok (.iload_n 3, 1) := by decide +kernel
theorem dX5_same_24 : decode cX5_same 24 = .ok (.iconst 1, 1) := by decide +kernel
theorem dX5_same_25 : decode cX5_same 25 = .ok (.if_icmp .lt 23, 3) := by decide +kernel
theorem dX5_same_28 : decode cX5_same 28 = .ok (.aload 4, 2) := by decide +kernel
theorem dX5_same_30 : decode cX5_same 30 = .ok (.iload_n 1, 1) := by decide +kernel
theorem dX5_same_31 : decode cX5_same 31 = .ok (.iload_n 3, 1) := by decide +kernel
theorem dX5_same_32 : decode cX5_same 32 = .ok (.invokevirtual 176, 3) := by decide +kernel
theorem dX5_same_35 : decode cX5_same 35 = .ok (.ifCond .eq 13, 3) := by decide +kernel
theorem dX5_same_38 : decode cX5_same 38 = .ok (.aload 4, 2) := by decide +kernel
theorem dX5_same_40 : decode cX5_same 40 = .ok (.iload_n 2, 1) := by decide +kernel
theorem dX5_same_41 : decode cX5_same 41 = .ok (.iload_n 3, 1) := by decide +kernel
theorem dX5_same_42 : decode cX5_same 42 = .ok (.invokevirtual 176, 3) := by decide +kernel
theorem dX5_same_45 : decode cX5_same 45 = .ok (.ifCond .ne 13, 3) := by decide +kernel
theorem dX5_same_48 : decode cX5_same 48 = .ok (.new 69, 3) := by decide +kernel
theorem dX5_same_51 : decode cX5_same 51 = .ok (.dup, 1) := by decide +kernel
theorem dX5_same_52 : decode cX5_same 52 = .ok (.ldc 180, 2) := by decide +kernel
theorem dX5_same_54 : decode cX5_same 54 = .ok (.invokespecial 73, 3) := by decide +kernel
theorem dX5_same_57 : decode cX5_same 57 = .ok (.athrow, 1) := by decide +kernel
theorem dX5_same_58 : decode cX5_same 58 = .ok (.iconst 0, 1) := by decide +kernel
theorem dX5_same_59 : decode cX5_same 59 = .ok (.istore 5, 2) := by decide +kernel
theorem dX5_same_61 : decode cX5_same 61 = .ok (.iload 5, 2) := by decide +kernel
theorem dX5_same_63 : decode cX5_same 63 = .ok (.iload_n 3, 1) := by decide +kernel
theorem dX5_same_64 : decode cX5_same 64 = .ok (.if_icmp .ge 32, 3) := by decide +kernel
theorem dX5_same_67 : decode cX5_same 67 = .ok (.aload 4, 2) := by decide +kernel
theorem dX5_same_69 : decode cX5_same 69 = .ok (.iload_n 1, 1) := by decide +kernel
theorem dX5_same_70 : decode cX5_same 70 = .ok (.iload 5, 2) := by decide +kernel
theorem dX5_same_72 : decode cX5_same 72 = .ok (.iadd, 1) := by decide +kernel
theorem dX5_same_73 : decode cX5_same 73 = .ok (.invokevirtual 117, 3) := by decide +kernel
theorem dX5_same_76 : decode cX5_same 76 = .ok (.aload 4, 2) := by decide +kernel
theorem dX5_same_78 : decode cX5_same 78 = .ok (.iload_n 2, 1) := by decide +kernel
theorem dX5_same_79 : decode cX5_same 79 = .ok (.iload 5, 2) := by decide +kernel
theorem dX5_same_81 : decode cX5_same 81 = .ok (.iadd, 1) := by decide +kernel
theorem dX5_same_82 : decode cX5_same 82 = .ok (.invokevirtual 117, 3) := by decide +kernel
theorem dX5_same_85 : decode cX5_same 85 = .ok (.if_icmp .eq 5, 3) := by decide +kernel
theorem dX5_same_88 : decode cX5_same 88 = .ok (.iconst 0, 1) := by decide +kernel
theorem dX5_same_89 : decode cX5_same 89 = .ok (.ireturn, 1) := by decide +kernel
theorem dX5_same_90 : decode cX5_same 90 = .ok (.iinc 5 1, 3) := by decide +kernel
theorem dX5_same_93 : decode cX5_same 93 = .ok (.goto (-32), 3) := by decide +kernel
theorem dX5_same_96 : decode cX5_same 96 = .ok (.iconst 1, 1) := by decide +kernel
theorem dX5_same_97 : decode cX5_same 97 = .ok (.ireturn, 1) := by decide +kernel
theorem dX5_checksum_0 : decode cX5_checksum 0 = .ok (.aload_n 0, 1) := by decide +kernel
theorem dX5_checksum_1 : decode cX5_checksum 1 = .ok (.invokevirtual 100, 3) := by decide +kernel
theorem dX5_checksum_4 : decode cX5_checksum 4 = .ok (.aload_n 0, 1) := by decide +kernel
theorem dX5_checksum_5 : decode cX5_checksum 5 = .ok (.getfield 10, 3) := by decide +kernel
theorem dX5_checksum_8 : decode cX5_checksum 8 = .ok (.getfield 74, 3) := by decide +kernel
theorem dX5_checksum_11 : decode cX5_checksum 11 = .ok (.astore_n 1, 1) := by decide +kernel
theorem dX5_checksum_12 : decode cX5_checksum 12 = .ok (.ldc2_w 182, 3) := by decide +kernel
theorem dX5_checksum_15 : decode cX5_checksum 15 = .ok (.lstore_n 2, 1) := by decide +kernel
theorem dX5_checksum_16 : decode cX5_checksum 16 = .ok (.iconst 0, 1) := by decide +kernel
theorem dX5_checksum_17 : decode cX5_checksum 17 = .ok (.istore 4, 2) := by decide +kernel
theorem dX5_checksum_19 : decode cX5_checksum 19 = .ok (.iload 4, 2) := by decide +kernel
theorem dX5_checksum_21 : decode cX5_checksum 21 = .ok (.aload_n 1, 1) := by decide +kernel
theorem dX5_checksum_22 : decode cX5_checksum 22 = .ok (.getfield 91, 3) := by decide +kernel
theorem dX5_checksum_25 : decode cX5_checksum 25 = .ok (.if_icmp .ge 23, 3) := by decide +kernel
theorem dX5_checksum_28 : decode cX5_checksum 28 = .ok (.lload_n 2, 1) := by decide +kernel
theorem dX5_checksum_29 : decode cX5_checksum 29 = .ok (.ldc2_w 184, 3) := by decide +kernel
theorem dX5_checksum_32 : decode cX5_checksum 32 = .ok (.lmul, 1) := by decide +kernel
theorem dX5_checksum_33 : decode cX5_checksum 33 = .ok (.aload_n 1, 1) := by decide +kernel
theorem dX5_checksum_34 : decode cX5_checksum 34 = .ok (.iload 4, 2) := by decide +kernel
theorem dX5_checksum_36 : decode cX5_checksum 36 = .ok (.invokevirtual 117, 3) := by decide +kernel
theorem dX5_checksum_39 : decode cX5_checksum 39 = .ok (.i2l, 1) := by decide +kernel
theorem dX5_checksum_40 : decode cX5_checksum 40 = .ok (.ladd, 1) := by decide +kernel
theorem dX5_checksum_41 : decode cX5_checksum 41 = .ok (.lstore_n 2, 1) := by decide +kernel
theorem dX5_checksum_42 : decode cX5_checksum 42 = .ok (.iinc 4 1, 3) := by decide +kernel
theorem dX5_checksum_45 : decode cX5_checksum 45 = .ok (.goto (-26), 3) := by decide +kernel
theorem dX5_checksum_48 : decode cX5_checksum 48 = .ok (.lload_n 2, 1) := by decide +kernel
theorem dX5_checksum_49 : decode cX5_checksum 49 = .ok (.lreturn, 1) := by decide +kernel
theorem dX5_forcedByCopy_0 : decode cX5_forcedByCopy 0 = .ok (.aload_n 0, 1) := by decide +kernel
theorem dX5_forcedByCopy_1 : decode cX5_forcedByCopy 1 = .ok (.invokevirtual 100, 3) := by decide +kernel
theorem dX5_forcedByCopy_4 : decode cX5_forcedByCopy 4 = .ok (.aload_n 0, 1) := by decide +kernel
theorem dX5_forcedByCopy_5 : decode cX5_forcedByCopy 5 = .ok (.iload_n 1, 1) := by decide +kernel
theorem dX5_forcedByCopy_6 : decode cX5_forcedByCopy 6 = .ok (.iload_n 2, 1) := by decide +kernel
theorem dX5_forcedByCopy_7 : decode cX5_forcedByCopy 7 = .ok (.iload_n 3, 1) := by decide +kernel
theorem dX5_forcedByCopy_8 : decode cX5_forcedByCopy 8 = .ok (.invokevirtual 190, 3) := by decide +kernel
theorem dX5_forcedByCopy_11 : decode cX5_forcedByCopy 11 = .ok (.aload_n 0, 1) := by decide +kernel
theorem dX5_forcedByCopy_12 : decode cX5_forcedByCopy 12 = .ok (.iconst 3, 1) := by decide +kernel
theorem dX5_forcedByCopy_13 : decode cX5_forcedByCopy 13 = .ok (.invokevirtual 194, 3) := by decide +kernel
theorem dX5_forcedByCopy_16 : decode cX5_forcedByCopy 16 = .ok (.ireturn, 1) := by decide +kernel
theorem dX5_owedIfCopy_0 : decode cX5_owedIfCopy 0 = .ok (.aload_n 0, 1) := by decide +kernel
theorem dX5_owedIfCopy_1 : decode cX5_owedIfCopy 1 = .ok (.invokevirtual 100, 3) := by decide +kernel
theorem dX5_owedIfCopy_4 : decode cX5_owedIfCopy 4 = .ok (.aload_n 0, 1) := by decide +kernel
theorem dX5_owedIfCopy_5 : decode cX5_owedIfCopy 5 = .ok (.iload_n 1, 1) := by decide +kernel
theorem dX5_owedIfCopy_6 : decode cX5_owedIfCopy 6 = .ok (.iload_n 2, 1) := by decide +kernel
theorem dX5_owedIfCopy_7 : decode cX5_owedIfCopy 7 = .ok (.iload_n 3, 1) := by decide +kernel
theorem dX5_owedIfCopy_8 : decode cX5_owedIfCopy 8 = .ok (.invokevirtual 190, 3) := by decide +kernel
theorem dX5_owedIfCopy_11 : decode cX5_owedIfCopy 11 = .ok (.aload_n 0, 1) := by decide +kernel
theorem dX5_owedIfCopy_12 : decode cX5_owedIfCopy 12 = .ok (.getfield 16, 3) := by decide +kernel
theorem dX5_owedIfCopy_15 : decode cX5_owedIfCopy 15 = .ok (.getfield 74, 3) := by decide +kernel
theorem dX5_owedIfCopy_18 : decode cX5_owedIfCopy 18 = .ok (.invokevirtual 141, 3) := by decide +kernel
theorem dX5_owedIfCopy_21 : decode cX5_owedIfCopy 21 = .ok (.ireturn, 1) := by decide +kernel
theorem dX5_costOfCopy_0 : decode cX5_costOfCopy 0 = .ok (.aload_n 0, 1) := by decide +kernel
theorem dX5_costOfCopy_1 : decode cX5_costOfCopy 1 = .ok (.invokevirtual 100, 3) := by decide +kernel
theorem dX5_costOfCopy_4 : decode cX5_costOfCopy 4 = .ok (.aload_n 0, 1) := by decide +kernel
theorem dX5_costOfCopy_5 : decode cX5_costOfCopy 5 = .ok (.iload_n 1, 1) := by decide +kernel
theorem dX5_costOfCopy_6 : decode cX5_costOfCopy 6 = .ok (.iload_n 2, 1) := by decide +kernel
theorem dX5_costOfCopy_7 : decode cX5_costOfCopy 7 = .ok (.iload_n 3, 1) := by decide +kernel
theorem dX5_costOfCopy_8 : decode cX5_costOfCopy 8 = .ok (.invokevirtual 190, 3) := by decide +kernel
theorem dX5_costOfCopy_11 : decode cX5_costOfCopy 11 = .ok (.aload_n 0, 1) := by decide +kernel
theorem dX5_costOfCopy_12 : decode cX5_costOfCopy 12 = .ok (.bipush 7, 2) := by decide +kernel
theorem dX5_costOfCopy_14 : decode cX5_costOfCopy 14 = .ok (.invokevirtual 194, 3) := by decide +kernel
theorem dX5_costOfCopy_17 : decode cX5_costOfCopy 17 = .ok (.ireturn, 1) := by decide +kernel
theorem dX5_forcedByWrite_0 : decode cX5_forcedByWrite 0 = .ok (.aload_n 0, 1) := by decide +kernel
theorem dX5_forcedByWrite_1 : decode cX5_forcedByWrite 1 = .ok (.invokevirtual 100, 3) := by decide +kernel
theorem dX5_forcedByWrite_4 : decode cX5_forcedByWrite 4 = .ok (.aload_n 0, 1) := by decide +kernel
theorem dX5_forcedByWrite_5 : decode cX5_forcedByWrite 5 = .ok (.iload_n 1, 1) := by decide +kernel
theorem dX5_forcedByWrite_6 : decode cX5_forcedByWrite 6 = .ok (.invokevirtual 111, 3) := by decide +kernel
theorem dX5_forcedByWrite_9 : decode cX5_forcedByWrite 9 = .ok (.aload_n 0, 1) := by decide +kernel
theorem dX5_forcedByWrite_10 : decode cX5_forcedByWrite 10 = .ok (.iload_n 1, 1) := by decide +kernel
theorem dX5_forcedByWrite_11 : decode cX5_forcedByWrite 11 = .ok (.iload_n 1, 1) := by decide +kernel
theorem dX5_forcedByWrite_12 : decode cX5_forcedByWrite 12 = .ok (.invokevirtual 197, 3) := by decide +kernel
theorem dX5_forcedByWrite_15 : decode cX5_forcedByWrite 15 = .ok (.aload_n 0, 1) := by decide +kernel
theorem dX5_forcedByWrite_16 : decode cX5_forcedByWrite 16 = .ok (.invokevirtual 200, 3) := by decide +kernel
theorem dX5_forcedByWrite_19 : decode cX5_forcedByWrite 19 = .ok (.aload_n 0, 1) := by decide +kernel
theorem dX5_forcedByWrite_20 : decode cX5_forcedByWrite 20 = .ok (.getfield 16, 3) := by decide +kernel
theorem dX5_forcedByWrite_23 : decode cX5_forcedByWrite 23 = .ok (.iload_n 1, 1) := by decide +kernel
theorem dX5_forcedByWrite_24 : decode cX5_forcedByWrite 24 = .ok (.iload_n 1, 1) := by decide +kernel
theorem dX5_forcedByWrite_25 : decode cX5_forcedByWrite 25 = .ok (.iconst 0, 1) := by decide +kernel
theorem dX5_forcedByWrite_26 : decode cX5_forcedByWrite 26 = .ok (.invokevirtual 203, 3) := by decide +kernel
theorem dX5_forcedByWrite_29 : decode cX5_forcedByWrite 29 = .ok (.ireturn, 1) := by decide +kernel
theorem dX5_forcedByFill_0 : decode cX5_forcedByFill 0 = .ok (.aload_n 0, 1) := by decide +kernel
theorem dX5_forcedByFill_1 : decode cX5_forcedByFill 1 = .ok (.invokevirtual 100, 3) := by decide +kernel
theorem dX5_forcedByFill_4 : decode cX5_forcedByFill 4 = .ok (.aload_n 0, 1) := by decide +kernel
theorem dX5_forcedByFill_5 : decode cX5_forcedByFill 5 = .ok (.iload_n 1, 1) := by decide +kernel
theorem dX5_forcedByFill_6 : decode cX5_forcedByFill 6 = .ok (.iload_n 2, 1) := by decide +kernel
theorem dX5_forcedByFill_7 : decode cX5_forcedByFill 7 = .ok (.invokevirtual 145, 3) := by decide +kernel
theorem dX5_forcedByFill_10 : decode cX5_forcedByFill 10 = .ok (.aload_n 0, 1) := by decide +kernel
theorem dX5_forcedByFill_11 : decode cX5_forcedByFill 11 = .ok (.iload_n 1, 1) := by decide +kernel
theorem dX5_forcedByFill_12 : decode cX5_forcedByFill 12 = .ok (.iload_n 2, 1) := by decide +kernel
theorem dX5_forcedByFill_13 : decode cX5_forcedByFill 13 = .ok (.invokevirtual 197, 3) := by decide +kernel
theorem dX5_forcedByFill_16 : decode cX5_forcedByFill 16 = .ok (.aload_n 0, 1) := by decide +kernel
theorem dX5_forcedByFill_17 : decode cX5_forcedByFill 17 = .ok (.invokevirtual 200, 3) := by decide +kernel
theorem dX5_forcedByFill_20 : decode cX5_forcedByFill 20 = .ok (.aload_n 0, 1) := by decide +kernel
theorem dX5_forcedByFill_21 : decode cX5_forcedByFill 21 = .ok (.getfield 16, 3) := by decide +kernel
theorem dX5_forcedByFill_24 : decode cX5_forcedByFill 24 = .ok (.iload_n 1, 1) := by decide +kernel
theorem dX5_forcedByFill_25 : decode cX5_forcedByFill 25 = .ok (.iload_n 2, 1) := by decide +kernel
theorem dX5_forcedByFill_26 : decode cX5_forcedByFill 26 = .ok (.iconst 0, 1) := by decide +kernel
theorem dX5_forcedByFill_27 : decode cX5_forcedByFill 27 = .ok (.invokevirtual 203, 3) := by decide +kernel
theorem dX5_forcedByFill_30 : decode cX5_forcedByFill 30 = .ok (.ireturn, 1) := by decide +kernel
theorem dX5_owedAfter_0 : decode cX5_owedAfter 0 = .ok (.aload_n 0, 1) := by decide +kernel
theorem dX5_owedAfter_1 : decode cX5_owedAfter 1 = .ok (.invokevirtual 100, 3) := by decide +kernel
theorem dX5_owedAfter_4 : decode cX5_owedAfter 4 = .ok (.aload_n 0, 1) := by decide +kernel
theorem dX5_owedAfter_5 : decode cX5_owedAfter 5 = .ok (.iload_n 1, 1) := by decide +kernel
theorem dX5_owedAfter_6 : decode cX5_owedAfter 6 = .ok (.invokevirtual 209, 3) := by decide +kernel
theorem dX5_owedAfter_9 : decode cX5_owedAfter 9 = .ok (.aload_n 0, 1) := by decide +kernel
theorem dX5_owedAfter_10 : decode cX5_owedAfter 10 = .ok (.getfield 10, 3) := by decide +kernel
theorem dX5_owedAfter_13 : decode cX5_owedAfter 13 = .ok (.getfield 74, 3) := by decide +kernel
theorem dX5_owedAfter_16 : decode cX5_owedAfter 16 = .ok (.invokevirtual 141, 3) := by decide +kernel
theorem dX5_owedAfter_19 : decode cX5_owedAfter 19 = .ok (.iload_n 1, 1) := by decide +kernel
theorem dX5_owedAfter_20 : decode cX5_owedAfter 20 = .ok (.aload_n 0, 1) := by decide +kernel
theorem dX5_owedAfter_21 : decode cX5_owedAfter 21 = .ok (.getfield 10, 3) := by decide +kernel
theorem dX5_owedAfter_24 : decode cX5_owedAfter 24 = .ok (.getfield 74, 3) := by decide +kernel
theorem dX5_owedAfter_27 : decode cX5_owedAfter 27 = .ok (.getfield 107, 3) := by decide +kernel
theorem dX5_owedAfter_30 : decode cX5_owedAfter 30 = .ok (.iconst 0, 1) := by decide +kernel
theorem dX5_owedAfter_31 : decode cX5_owedAfter 31 = .ok (.iaload, 1) := by decide +kernel
theorem dX5_owedAfter_32 : decode cX5_owedAfter 32 = .ok (.imul, 1) := by decide +kernel
theorem dX5_owedAfter_33 : decode cX5_owedAfter 33 = .ok (.isub, 1) := by decide +kernel
theorem dX5_owedAfter_34 : decode cX5_owedAfter 34 = .ok (.istore_n 2, 1) := by decide +kernel
theorem dX5_owedAfter_35 : decode cX5_owedAfter 35 = .ok (.iload_n 2, 1) := by decide +kernel
theorem dX5_owedAfter_36 : decode cX5_owedAfter 36 = .ok (.iconst 0, 1) := by decide +kernel
theorem dX5_owedAfter_37 : decode cX5_owedAfter 37 = .ok (.invokestatic 212, 3) := by decide +kernel
theorem dX5_owedAfter_40 : decode cX5_owedAfter 40 = .ok (.ireturn, 1) := by decide +kernel
theorem dX5_paidIn_0 : decode cX5_paidIn 0 = .ok (.aload_n 0, 1) := by decide +kernel
theorem dX5_paidIn_1 : decode cX5_paidIn 1 = .ok (.invokevirtual 100, 3) := by decide +kernel
theorem dX5_paidIn_4 : decode cX5_paidIn 4 = .ok (.aload_n 0, 1) := by decide +kernel
theorem dX5_paidIn_5 : decode cX5_paidIn 5 = .ok (.iload_n 1, 1) := by decide +kernel
theorem dX5_paidIn_6 : decode cX5_paidIn 6 = .ok (.invokevirtual 111, 3) := by decide +kernel
theorem dX5_paidIn_9 : decode cX5_paidIn 9 = .ok (.aload_n 0, 1) := by decide +kernel
theorem dX5_paidIn_10 : decode cX5_paidIn 10 = .ok (.invokevirtual 200, 3) := by decide +kernel
theorem dX5_paidIn_13 : decode cX5_paidIn 13 = .ok (.aload_n 0, 1) := by decide +kernel
theorem dX5_paidIn_14 : decode cX5_paidIn 14 = .ok (.getfield 10, 3) := by decide +kernel
theorem dX5_paidIn_17 : decode cX5_paidIn 17 = .ok (.aload_n 0, 1) := by decide +kernel
theorem dX5_paidIn_18 : decode cX5_paidIn 18 = .ok (.getfield 16, 3) := by decide +kernel
theorem dX5_paidIn_21 : decode cX5_paidIn 21 = .ok (.iload_n 1, 1) := by decide +kernel
theorem dX5_paidIn_22 : decode cX5_paidIn 22 = .ok (.invokevirtual 217, 3) := by decide +kernel
theorem dX5_paidIn_25 : decode cX5_paidIn 25 = .ok (.invokevirtual 206, 3) := by decide +kernel
theorem dX5_paidIn_28 : decode cX5_paidIn 28 = .ok (.ireturn, 1) := by decide +kernel
theorem dX5_account_0 : decode cX5_account 0 = .ok (.aload_n 0, 1) := by decide +kernel
theorem dX5_account_1 : decode cX5_account 1 = .ok (.invokevirtual 100, 3) := by decide +kernel
theorem dX5_account_4 : decode cX5_account 4 = .ok (.aload_n 0, 1) := by decide +kernel
theorem dX5_account_5 : decode cX5_account 5 = .ok (.iload_n 1, 1) := by decide +kernel
theorem dX5_account_6 : decode cX5_account 6 = .ok (.bipush 9, 2) := by decide +kernel
theorem dX5_account_8 : decode cX5_account 8 = .ok (.invokevirtual 103, 3) := by decide +kernel
theorem dX5_account_11 : decode cX5_account 11 = .ok (.aload_n 0, 1) := by decide +kernel
theorem dX5_account_12 : decode cX5_account 12 = .ok (.getfield 10, 3) := by decide +kernel
theorem dX5_account_15 : decode cX5_account 15 = .ok (.getfield 74, 3) := by decide +kernel
theorem dX5_account_18 : decode cX5_account 18 = .ok (.getfield 226, 3) := by decide +kernel
theorem dX5_account_21 : decode cX5_account 21 = .ok (.iload_n 1, 1) := by decide +kernel
theorem dX5_account_22 : decode cX5_account 22 = .ok (.iaload, 1) := by decide +kernel
theorem dX5_account_23 : decode cX5_account 23 = .ok (.ireturn, 1) := by decide +kernel
theorem dX5_meanHops_0 : decode cX5_meanHops 0 = .ok (.aload_n 0, 1) := by decide +kernel
theorem dX5_meanHops_1 : decode cX5_meanHops 1 = .ok (.invokevirtual 100, 3) := by decide +kernel
theorem dX5_meanHops_4 : decode cX5_meanHops 4 = .ok (.aload_n 0, 1) := by decide +kernel
theorem dX5_meanHops_5 : decode cX5_meanHops 5 = .ok (.getfield 10, 3) := by decide +kernel
theorem dX5_meanHops_8 : decode cX5_meanHops 8 = .ok (.getfield 74, 3) := by decide +kernel
theorem dX5_meanHops_11 : decode cX5_meanHops 11 = .ok (.getfield 226, 3) := by decide +kernel
theorem dX5_meanHops_14 : decode cX5_meanHops 14 = .ok (.bipush 8, 2) := by decide +kernel
theorem dX5_meanHops_16 : decode cX5_meanHops 16 = .ok (.iaload, 1) := by decide +kernel
theorem dX5_meanHops_17 : decode cX5_meanHops 17 = .ok (.istore_n 1, 1) := by decide +kernel
theorem dX5_meanHops_18 : decode cX5_meanHops 18 = .ok (.iload_n 1, 1) := by decide +kernel
theorem dX5_meanHops_19 : decode cX5_meanHops 19 = .ok (.ifCond .ne 5, 3) := by decide +kernel
theorem dX5_meanHops_22 : decode cX5_meanHops 22 = .ok (.dconst 0, 1) := by decide +kernel
theorem dX5_meanHops_23 : decode cX5_meanHops 23 = .ok (.dreturn, 1) := by decide +kernel
theorem dX5_meanHops_24 : decode cX5_meanHops 24 = .ok (.aload_n 0, 1) := by decide +kernel
theorem dX5_meanHops_25 : decode cX5_meanHops 25 = .ok (.getfield 10, 3) := by decide +kernel
theorem dX5_meanHops_28 : decode cX5_meanHops 28 = .ok (.getfield 74, 3) := by decide +kernel
theorem dX5_meanHops_31 : decode cX5_meanHops 31 = .ok (.getfield 226, 3) := by decide +kernel
theorem dX5_meanHops_34 : decode cX5_meanHops 34 = .ok (.bipush 6, 2) := by decide +kernel
theorem dX5_meanHops_36 : decode cX5_meanHops 36 = .ok (.iaload, 1) := by decide +kernel
theorem dX5_meanHops_37 : decode cX5_meanHops 37 = .ok (.i2d, 1) := by decide +kernel
theorem dX5_meanHops_38 : decode cX5_meanHops 38 = .ok (.iload_n 1, 1) := by decide +kernel
theorem dX5_meanHops_39 : decode cX5_meanHops 39 = .ok (.i2d, 1) := by decide +kernel
theorem dX5_meanHops_40 : decode cX5_meanHops 40 = .ok (.ddiv, 1) := by decide +kernel
theorem dX5_meanHops_41 : decode cX5_meanHops 41 = .ok (.dreturn, 1) := by decide +kernel
theorem dX5_idleShare_0 : decode cX5_idleShare 0 = .ok (.aload_n 0, 1) := by decide +kernel
theorem dX5_idleShare_1 : decode cX5_idleShare 1 = .ok (.invokevirtual 100, 3) := by decide +kernel
theorem dX5_idleShare_4 : decode cX5_idleShare 4 = .ok (.aload_n 0, 1) := by decide +kernel
theorem dX5_idleShare_5 : decode cX5_idleShare 5 = .ok (.getfield 10, 3) := by decide +kernel
theorem dX5_idleShare_8 : decode cX5_idleShare 8 = .ok (.getfield 74, 3) := by decide +kernel
theorem dX5_idleShare_11 : decode cX5_idleShare 11 = .ok (.getfield 226, 3) := by decide +kernel
theorem dX5_idleShare_14 : decode cX5_idleShare 14 = .ok (.astore_n 1, 1) := by decide +kernel
theorem dX5_idleShare_15 : decode cX5_idleShare 15 = .ok (.aload_n 1, 1) := by decide +kernel
theorem dX5_idleShare_16 : decode cX5_idleShare 16 = .ok (.iconst 2, 1) := by decide +kernel
theorem dX5_idleShare_17 : decode cX5_idleShare 17 = .ok (.iaload, 1) := by decide +kernel
theorem dX5_idleShare_18 : decode cX5_idleShare 18 = .ok (.istore_n 2, 1) := by decide +kernel
theorem dX5_idleShare_19 : decode cX5_idleShare 19 = .ok (.iload_n 2, 1) := by decide +kernel
theorem dX5_idleShare_20 : decode cX5_idleShare 20 = .ok (.aload_n 1, 1) := by decide +kernel
theorem dX5_idleShare_21 : decode cX5_idleShare 21 = .ok (.iconst 3, 1) := by decide +kernel
theorem dX5_idleShare_22 : decode cX5_idleShare 22 = .ok (.iaload, 1) := by decide +kernel
theorem dX5_idleShare_23 : decode cX5_idleShare 23 = .ok (.iadd, 1) := by decide +kernel
theorem dX5_idleShare_24 : decode cX5_idleShare 24 = .ok (.aload_n 1, 1) := by decide +kernel
theorem dX5_idleShare_25 : decode cX5_idleShare 25 = .ok (.iconst 4, 1) := by decide +kernel
theorem dX5_idleShare_26 : decode cX5_idleShare 26 = .ok (.iaload, 1) := by decide +kernel
theorem dX5_idleShare_27 : decode cX5_idleShare 27 = .ok (.iadd, 1) := by decide +kernel
theorem dX5_idleShare_28 : decode cX5_idleShare 28 = .ok (.istore_n 3, 1) := by decide +kernel
theorem dX5_idleShare_29 : decode cX5_idleShare 29 = .ok (.iload_n 3, 1) := by decide +kernel
theorem dX5_idleShare_30 : decode cX5_idleShare 30 = .ok (.ifCond .ne 5, 3) := by decide +kernel
theorem dX5_idleShare_33 : decode cX5_idleShare 33 = .ok (.fconst 0, 1) := by decide +kernel
theorem dX5_idleShare_34 : decode cX5_idleShare 34 = .ok (.freturn, 1) := by decide +kernel
theorem dX5_idleShare_35 : decode cX5_idleShare 35 = .ok (.iload_n 2, 1) := by decide +kernel
theorem dX5_idleShare_36 : decode cX5_idleShare 36 = .ok (.i2f, 1) := by decide +kernel
theorem dX5_idleShare_37 : decode cX5_idleShare 37 = .ok (.iload_n 3, 1) := by decide +kernel
theorem dX5_idleShare_38 : decode cX5_idleShare 38 = .ok (.i2f, 1) := by decide +kernel
theorem dX5_idleShare_39 : decode cX5_idleShare 39 = .ok (.fdiv, 1) := by decide +kernel
theorem dX5_idleShare_40 : decode cX5_idleShare 40 = .ok (.freturn, 1) := by decide +kernel
theorem dX5_events_0 : decode cX5_events 0 = .ok (.aload_n 0, 1) := by decide +kernel
theorem dX5_events_1 : decode cX5_events 1 = .ok (.getfield 10, 3) := by decide +kernel
theorem dX5_events_4 : decode cX5_events 4 = .ok (.getfield 74, 3) := by decide +kernel
theorem dX5_events_7 : decode cX5_events 7 = .ok (.getfield 229, 3) := by decide +kernel
theorem dX5_events_10 : decode cX5_events 10 = .ok (.ireturn, 1) := by decide +kernel
theorem dX5_event_0 : decode cX5_event 0 = .ok (.aload_n 0, 1) := by decide +kernel
theorem dX5_event_1 : decode cX5_event 1 = .ok (.invokevirtual 100, 3) := by decide +kernel
theorem dX5_event_4 : decode cX5_event 4 = .ok (.iload_n 1, 1) := by decide +kernel
theorem dX5_event_5 : decode cX5_event 5 = .ok (.ifCond .lt 17, 3) := by decide +kernel
theorem dX5_event_8 : decode cX5_event 8 = .ok (.iload_n 1, 1) := by decide +kernel
theorem dX5_event_9 : decode cX5_event 9 = .ok (.aload_n 0, 1) := by decide +kernel
theorem dX5_event_10 : decode cX5_event 10 = .ok (.getfield 10, 3) := by decide +kernel
theorem dX5_event_13 : decode cX5_event 13 = .ok (.getfield 74, 3) := by decide +kernel
theorem dX5_event_16 : decode cX5_event 16 = .ok (.getfield 229, 3) := by decide +kernel
theorem dX5_event_19 : decode cX5_event 19 = .ok (.if_icmp .lt 13, 3) := by decide +kernel
theorem dX5_event_22 : decode cX5_event 22 = .ok (.new 59, 3) := by decide +kernel
theorem dX5_event_25 : decode cX5_event 25 = .ok (.dup, 1) := by decide +kernel
theorem dX5_event_26 : decode cX5_event 26 = .ok (.ldc 232, 2) := by decide +kernel
theorem dX5_event_28 : decode cX5_event 28 = .ok (.invokespecial 63, 3) := by decide +kernel
theorem dX5_event_31 : decode cX5_event 31 = .ok (.athrow, 1) := by decide +kernel
theorem dX5_event_32 : decode cX5_event 32 = .ok (.aload_n 0, 1) := by decide +kernel
theorem dX5_event_33 : decode cX5_event 33 = .ok (.iload_n 2, 1) := by decide +kernel
theorem dX5_event_34 : decode cX5_event 34 = .ok (.iconst 3, 1) := by decide +kernel
theorem dX5_event_35 : decode cX5_event 35 = .ok (.invokevirtual 103, 3) := by decide +kernel
theorem dX5_event_38 : decode cX5_event 38 = .ok (.aload_n 0, 1) := by decide +kernel
theorem dX5_event_39 : decode cX5_event 39 = .ok (.getfield 10, 3) := by decide +kernel
theorem dX5_event_42 : decode cX5_event 42 = .ok (.getfield 74, 3) := by decide +kernel
theorem dX5_event_45 : decode cX5_event 45 = .ok (.getfield 234, 3) := by decide +kernel
theorem dX5_event_48 : decode cX5_event 48 = .ok (.iload_n 1, 1) := by decide +kernel
theorem dX5_event_49 : decode cX5_event 49 = .ok (.iconst 3, 1) := by decide +kernel
theorem dX5_event_50 : decode cX5_event 50 = .ok (.imul, 1) := by decide +kernel
theorem dX5_event_51 : decode cX5_event 51 = .ok (.iload_n 2, 1) := by decide +kernel
theorem dX5_event_52 : decode cX5_event 52 = .ok (.iadd, 1) := by decide +kernel
theorem dX5_event_53 : decode cX5_event 53 = .ok (.iaload, 1) := by decide +kernel
theorem dX5_event_54 : decode cX5_event 54 = .ok (.ireturn, 1) := by decide +kernel
theorem dX5_writeDebts_0 : decode cX5_writeDebts 0 = .ok (.aload_n 0, 1) := by decide +kernel
theorem dX5_writeDebts_1 : decode cX5_writeDebts 1 = .ok (.invokevirtual 100, 3) := by decide +kernel
theorem dX5_writeDebts_4 : decode cX5_writeDebts 4 = .ok (.aload_n 0, 1) := by decide +kernel
theorem dX5_writeDebts_5 : decode cX5_writeDebts 5 = .ok (.getfield 10, 3) := by decide +kernel
theorem dX5_writeDebts_8 : decode cX5_writeDebts 8 = .ok (.getfield 74, 3) := by decide +kernel
theorem dX5_writeDebts_11 : decode cX5_writeDebts 11 = .ok (.astore_n 1, 1) := by decide +kernel
theorem dX5_writeDebts_12 : decode cX5_writeDebts 12 = .ok (.aload_n 0, 1) := by decide +kernel
theorem dX5_writeDebts_13 : decode cX5_writeDebts 13 = .ok (.getfield 42, 3) := by decide +kernel
theorem dX5_writeDebts_16 : decode cX5_writeDebts 16 = .ok (.invokevirtual 237, 3) := by decide +kernel
theorem dX5_writeDebts_19 : decode cX5_writeDebts 19 = .ok (.iconst 0, 1) := by decide +kernel
theorem dX5_writeDebts_20 : decode cX5_writeDebts 20 = .ok (.istore_n 2, 1) := by decide +kernel
theorem dX5_writeDebts_21 : decode cX5_writeDebts 21 = .ok (.iload_n 2, 1) := by decide +kernel
theorem dX5_writeDebts_22 : decode cX5_writeDebts 22 = .ok (.aload_n 1, 1) := by decide +kernel
theorem dX5_writeDebts_23 : decode cX5_writeDebts 23 = .ok (.getfield 91, 3) := by decide +kernel
theorem dX5_writeDebts_26 : decode cX5_writeDebts 26 = .ok (.if_icmp .ge 22, 3) := by decide +kernel
theorem dX5_writeDebts_29 : decode cX5_writeDebts 29 = .ok (.aload_n 1, 1) := by decide +kernel
theorem dX5_writeDebts_30 : decode cX5_writeDebts 30 = .ok (.iload_n 2, 1) := by decide +kernel
theorem dX5_writeDebts_31 : decode cX5_writeDebts 31 = .ok (.invokevirtual 154, 3) := by decide +kernel
theorem dX5_writeDebts_34 : decode cX5_writeDebts 34 = .ok (.ifCond .eq 8, 3) := by decide +kernel
theorem dX5_writeDebts_37 : decode cX5_writeDebts 37 = .ok (.aload_n 0, 1) := by decide +kernel
theorem dX5_writeDebts_38 : decode cX5_writeDebts 38 = .ok (.iload_n 2, 1) := by decide +kernel
theorem dX5_writeDebts_39 : decode cX5_writeDebts 39 = .ok (.invokevirtual 238, 3) := by decide +kernel
theorem dX5_writeDebts_42 : decode cX5_writeDebts 42 = .ok (.iinc 2 1, 3) := by decide +kernel
theorem dX5_writeDebts_45 : decode cX5_writeDebts 45 = .ok (.goto (-24), 3) := by decide +kernel
theorem dX5_writeDebts_48 : decode cX5_writeDebts 48 = .ok (.aload_n 0, 1) := by decide +kernel
theorem dX5_writeDebts_49 : decode cX5_writeDebts 49 = .ok (.getfield 42, 3) := by decide +kernel
theorem dX5_writeDebts_52 : decode cX5_writeDebts 52 = .ok (.getfield 241, 3) := by decide +kernel
theorem dX5_writeDebts_55 : decode cX5_writeDebts 55 = .ok (.ifCond .ne 12, 3) := by decide +kernel
theorem dX5_writeDebts_58 : decode cX5_writeDebts 58 = .ok (.aload_n 0, 1) := by decide +kernel
theorem dX5_writeDebts_59 : decode cX5_writeDebts 59 = .ok (.getfield 42, 3) := by decide +kernel
theorem dX5_writeDebts_62 : decode cX5_writeDebts 62 = .ok (.bipush 45, 2) := by decide +kernel
theorem dX5_writeDebts_64 : decode cX5_writeDebts 64 = .ok (.invokevirtual 244, 3) := by decide +kernel
theorem dX5_writeDebts_67 : decode cX5_writeDebts 67 = .ok (.aload_n 0, 1) := by decide +kernel
theorem dX5_writeDebts_68 : decode cX5_writeDebts 68 = .ok (.getfield 42, 3) := by decide +kernel
theorem dX5_writeDebts_71 : decode cX5_writeDebts 71 = .ok (.getfield 241, 3) := by decide +kernel
theorem dX5_writeDebts_74 : decode cX5_writeDebts 74 = .ok (.ireturn, 1) := by decide +kernel
theorem dX5_writeChain_0 : decode cX5_writeChain 0 = .ok (.aload_n 0, 1) := by decide +kernel
theorem dX5_writeChain_1 : decode cX5_writeChain 1 = .ok (.invokevirtual 100, 3) := by decide +kernel
theorem dX5_writeChain_4 : decode cX5_writeChain 4 = .ok (.aload_n 0, 1) := by decide +kernel
theorem dX5_writeChain_5 : decode cX5_writeChain 5 = .ok (.iload_n 1, 1) := by decide +kernel
theorem dX5_writeChain_6 : decode cX5_writeChain 6 = .ok (.invokevirtual 111, 3) := by decide +kernel
theorem dX5_writeChain_9 : decode cX5_writeChain 9 = .ok (.aload_n 0, 1) := by decide +kernel
theorem dX5_writeChain_10 : decode cX5_writeChain 10 = .ok (.getfield 10, 3) := by decide +kernel
theorem dX5_writeChain_13 : decode cX5_writeChain 13 = .ok (.getfield 74, 3) := by decide +kernel
theorem dX5_writeChain_16 : decode cX5_writeChain 16 = .ok (.astore_n 2, 1) := by decide +kernel
theorem dX5_writeChain_17 : decode cX5_writeChain 17 = .ok (.aload_n 0, 1) := by decide +kernel
theorem dX5_writeChain_18 : decode cX5_writeChain 18 = .ok (.getfield 42, 3) := by decide +kernel
theorem dX5_writeChain_21 : decode cX5_writeChain 21 = .ok (.invokevirtual 237, 3) := by decide +kernel
theorem dX5_writeChain_24 : decode cX5_writeChain 24 = .ok (.aload_n 0, 1) := by decide +kernel
theorem dX5_writeChain_25 : decode cX5_writeChain 25 = .ok (.getfield 42, 3) := by decide +kernel
theorem dX5_writeChain_28 : decode cX5_writeChain 28 = .ok (.iload_n 1, 1) := by decide +kernel
theorem dX5_writeChain_29 : decode cX5_writeChain 29 = .ok (.invokevirtual 247, 3) := by decide +kernel
theorem dX5_writeChain_32 : decode cX5_writeChain 32 = .ok (.iload_n 1, 1) := by decide +kernel
theorem dX5_writeChain_33 : decode cX5_writeChain 33 = .ok (.istore_n 3, 1) := by decide +kernel
theorem dX5_writeChain_34 : decode cX5_writeChain 34 = .ok (.iconst 0, 1) := by decide +kernel
theorem dX5_writeChain_35 : decode cX5_writeChain 35 = .ok (.istore 4, 2) := by decide +kernel
theorem dX5_writeChain_37 : decode cX5_writeChain 37 = .ok (.iload 4, 2) := by decide +kernel
theorem dX5_writeChain_39 : decode cX5_writeChain 39 = .ok (.bipush 96, 2) := by decide +kernel
theorem dX5_writeChain_41 : decode cX5_writeChain 41 = .ok (.if_icmp .ge 41, 3) := by decide +kernel
theorem dX5_writeChain_44 : decode cX5_writeChain 44 = .ok (.aload_n 2, 1) := by decide +kernel
theorem dX5_writeChain_45 : decode cX5_writeChain 45 = .ok (.iload_n 3, 1) := by decide +kernel
theorem dX5_writeChain_46 : decode cX5_writeChain 46 = .ok (.invokevirtual 151, 3) := by decide +kernel
theorem dX5_writeChain_49 : decode cX5_writeChain 49 = .ok (.ifCond .eq 33, 3) := by decide +kernel
theorem dX5_writeChain_52 : decode cX5_writeChain 52 = .ok (.aload_n 2, 1) := by decide +kernel
theorem dX5_writeChain_53 : decode cX5_writeChain 53 = .ok (.getfield 121, 3) := by decide +kernel
theorem dX5_writeChain_56 : decode cX5_writeChain 56 = .ok (.iload_n 3, 1) := by decide +kernel
theorem dX5_writeChain_57 : decode cX5_writeChain 57 = .ok (.iaload, 1) := by decide +kernel
theorem dX5_writeChain_58 : decode cX5_writeChain 58 = .ok (.istore_n 3, 1) := by decide +kernel
theorem dX5_writeChain_59 : decode cX5_writeChain 59 = .ok (.aload_n 0, 1) := by decide +kernel
theorem dX5_writeChain_60 : decode cX5_writeChain 60 = .ok (.getfield 42, 3) := by decide +kernel
theorem dX5_writeChain_63 : decode cX5_writeChain 63 = .ok (.bipush 60, 2) := by decide +kernel
theorem dX5_writeChain_65 : decode cX5_writeChain 65 = .ok (.invokevirtual 244, 3) := by decide +kernel
theorem dX5_writeChain_68 : decode cX5_writeChain 68 = .ok (.aload_n 0, 1) := by decide +kernel
theorem dX5_writeChain_69 : decode cX5_writeChain 69 = .ok (.getfield 42, 3) := by decide +kernel
theorem dX5_writeChain_72 : decode cX5_writeChain 72 = .ok (.iload_n 3, 1) := by decide +kernel
theorem dX5_writeChain_73 : decode cX5_writeChain 73 = .ok (.invokevirtual 247, 3) := by decide +kernel
theorem dX5_writeChain_76 : decode cX5_writeChain 76 = .ok (.iinc 4 1, 3) := by decide +kernel
theorem dX5_writeChain_79 : decode cX5_writeChain 79 = .ok (.goto (-42), 3) := by decide +kernel
theorem dX5_writeChain_82 : decode cX5_writeChain 82 = .ok (.aload_n 0, 1) := by decide +kernel
theorem dX5_writeChain_83 : decode cX5_writeChain 83 = .ok (.getfield 42, 3) := by decide +kernel
theorem dX5_writeChain_86 : decode cX5_writeChain 86 = .ok (.bipush 61, 2) := by decide +kernel
theorem dX5_writeChain_88 : decode cX5_writeChain 88 = .ok (.invokevirtual 244, 3) := by decide +kernel
theorem dX5_writeChain_91 : decode cX5_writeChain 91 = .ok (.aload_n 0, 1) := by decide +kernel
theorem dX5_writeChain_92 : decode cX5_writeChain 92 = .ok (.getfield 42, 3) := by decide +kernel
theorem dX5_writeChain_95 : decode cX5_writeChain 95 = .ok (.aload_n 2, 1) := by decide +kernel
theorem dX5_writeChain_96 : decode cX5_writeChain 96 = .ok (.iload_n 1, 1) := by decide +kernel
theorem dX5_writeChain_97 : decode cX5_writeChain 97 = .ok (.invokevirtual 117, 3) := by decide +kernel
theorem dX5_writeChain_100 : decode cX5_writeChain 100 = .ok (.invokevirtual 247, 3) := by decide +kernel
theorem dX5_writeChain_103 : decode cX5_writeChain 103 = .ok (.aload_n 0, 1) := by decide +kernel
theorem dX5_writeChain_104 : decode cX5_writeChain 104 = .ok (.getfield 42, 3) := by decide +kernel
theorem dX5_writeChain_107 : decode cX5_writeChain 107 = .ok (.getfield 241, 3) := by decide +kernel
theorem dX5_writeChain_110 : decode cX5_writeChain 110 = .ok (.ireturn, 1) := by decide +kernel
theorem dX5_textByte_0 : decode cX5_textByte 0 = .ok (.iload_n 1, 1) := by decide +kernel
theorem dX5_textByte_1 : decode cX5_textByte 1 = .ok (.ifCond .lt 14, 3) := by decide +kernel
theorem dX5_textByte_4 : decode cX5_textByte 4 = .ok (.iload_n 1, 1) := by decide +kernel
theorem dX5_textByte_5 : decode cX5_textByte 5 = .ok (.aload_n 0, 1) := by decide +kernel
theorem dX5_textByte_6 : decode cX5_textByte 6 = .ok (.getfield 42, 3) := by decide +kernel
theorem dX5_textByte_9 : decode cX5_textByte 9 = .ok (.getfield 241, 3) := by decide +kernel
theorem dX5_textByte_12 : decode cX5_textByte 12 = .ok (.if_icmp .lt 13, 3) := by decide +kernel
theorem dX5_textByte_15 : decode cX5_textByte 15 = .ok (.new 59, 3) := by decide +kernel
theorem dX5_textByte_18 : decode cX5_textByte 18 = .ok (.dup, 1) := by decide +kernel
theorem dX5_textByte_19 : decode cX5_textByte 19 = .ok (.ldc 250, 2) := by decide +kernel
theorem dX5_textByte_21 : decode cX5_textByte 21 = .ok (.invokespecial 63, 3) := by decide +kernel
theorem dX5_textByte_24 : decode cX5_textByte 24 = .ok (.athrow, 1) := by decide +kernel
theorem dX5_textByte_25 : decode cX5_textByte 25 = .ok (.aload_n 0, 1) := by decide +kernel
theorem dX5_textByte_26 : decode cX5_textByte 26 = .ok (.getfield 42, 3) := by decide +kernel
theorem dX5_textByte_29 : decode cX5_textByte 29 = .ok (.getfield 252, 3) := by decide +kernel
theorem dX5_textByte_32 : decode cX5_textByte 32 = .ok (.iload_n 1, 1) := by decide +kernel
theorem dX5_textByte_33 : decode cX5_textByte 33 = .ok (.iaload, 1) := by decide +kernel
theorem dX5_textByte_34 : decode cX5_textByte 34 = .ok (.ireturn, 1) := by decide +kernel
theorem dX5_copy_0 : decode cX5_copy 0 = .ok (.aload_n 0, 1) := by decide +kernel
theorem dX5_copy_1 : decode cX5_copy 1 = .ok (.invokevirtual 100, 3) := by decide +kernel
theorem dX5_copy_4 : decode cX5_copy 4 = .ok (.aload_n 0, 1) := by decide +kernel
theorem dX5_copy_5 : decode cX5_copy 5 = .ok (.iload_n 1, 1) := by decide +kernel
theorem dX5_copy_6 : decode cX5_copy 6 = .ok (.iload_n 2, 1) := by decide +kernel
theorem dX5_copy_7 : decode cX5_copy 7 = .ok (.iload_n 3, 1) := by decide +kernel
theorem dX5_copy_8 : decode cX5_copy 8 = .ok (.invokevirtual 255, 3) := by decide +kernel
theorem dX5_copy_11 : decode cX5_copy 11 = .ok (.aload_n 0, 1) := by decide +kernel
theorem dX5_copy_12 : decode cX5_copy 12 = .ok (.getfield 29, 3) := by decide +kernel
theorem dX5_copy_15 : decode cX5_copy 15 = .ok (.aload_n 0, 1) := by decide +kernel
theorem dX5_copy_16 : decode cX5_copy 16 = .ok (.getfield 10, 3) := by decide +kernel
theorem dX5_copy_19 : decode cX5_copy 19 = .ok (.getfield 74, 3) := by decide +kernel
theorem dX5_copy_22 : decode cX5_copy 22 = .ok (.invokevirtual 258, 3) := by decide +kernel
theorem dX5_copy_25 : decode cX5_copy 25 = .ok (.aload_n 0, 1) := by decide +kernel
theorem dX5_copy_26 : decode cX5_copy 26 = .ok (.getfield 10, 3) := by decide +kernel
theorem dX5_copy_29 : decode cX5_copy 29 = .ok (.iload_n 1, 1) := by decide +kernel
theorem dX5_copy_30 : decode cX5_copy 30 = .ok (.iload_n 2, 1) := by decide +kernel
theorem dX5_copy_31 : decode cX5_copy 31 = .ok (.iload_n 3, 1) := by decide +kernel
theorem dX5_copy_32 : decode cX5_copy 32 = .ok (.invokevirtual 261, 3) := by decide +kernel
theorem dX5_copy_35 : decode cX5_copy 35 = .ok (.ireturn, 1) := by decide +kernel
theorem dX5_write_0 : decode cX5_write 0 = .ok (.aload_n 0, 1) := by decide +kernel
theorem dX5_write_1 : decode cX5_write 1 = .ok (.invokevirtual 100, 3) := by decide +kernel
theorem dX5_write_4 : decode cX5_write 4 = .ok (.aload_n 0, 1) := by decide +kernel
theorem dX5_write_5 : decode cX5_write 5 = .ok (.iload_n 1, 1) := by decide +kernel
theorem dX5_write_6 : decode cX5_write 6 = .ok (.invokevirtual 111, 3) := by decide +kernel
theorem dX5_write_9 : decode cX5_write 9 = .ok (.aload_n 0, 1) := by decide +kernel
theorem dX5_write_10 : decode cX5_write 10 = .ok (.iload_n 2, 1) := by decide +kernel
theorem dX5_write_11 : decode cX5_write 11 = .ok (.invokevirtual 173, 3) := by decide +kernel
theorem dX5_write_14 : decode cX5_write 14 = .ok (.aload_n 0, 1) := by decide +kernel
theorem dX5_write_15 : decode cX5_write 15 = .ok (.iload_n 1, 1) := by decide +kernel
theorem dX5_write_16 : decode cX5_write 16 = .ok (.iload_n 1, 1) := by decide +kernel
theorem dX5_write_17 : decode cX5_write 17 = .ok (.invokevirtual 197, 3) := by decide +kernel
theorem dX5_write_20 : decode cX5_write 20 = .ok (.aload_n 0, 1) := by decide +kernel
theorem dX5_write_21 : decode cX5_write 21 = .ok (.getfield 29, 3) := by decide +kernel
theorem dX5_write_24 : decode cX5_write 24 = .ok (.aload_n 0, 1) := by decide +kernel
theorem dX5_write_25 : decode cX5_write 25 = .ok (.getfield 10, 3) := by decide +kernel
theorem dX5_write_28 : decode cX5_write 28 = .ok (.getfield 74, 3) := by decide +kernel
theorem dX5_write_31 : decode cX5_write 31 = .ok (.invokevirtual 258, 3) := by decide +kernel
theorem dX5_write_34 : decode cX5_write 34 = .ok (.aload_n 0, 1) := by decide +kernel
theorem dX5_write_35 : decode cX5_write 35 = .ok (.getfield 10, 3) := by decide +kernel
theorem dX5_write_38 : decode cX5_write 38 = .ok (.iload_n 1, 1) := by decide +kernel
theorem dX5_write_39 : decode cX5_write 39 = .ok (.iload_n 1, 1) := by decide +kernel
theorem dX5_write_40 : decode cX5_write 40 = .ok (.iload_n 2, 1) := by decide +kernel
theorem dX5_write_41 : decode cX5_write 41 = .ok (.invokevirtual 203, 3) := by decide +kernel
theorem dX5_write_44 : decode cX5_write 44 = .ok (.ireturn, 1) := by decide +kernel
theorem dX5_fill_0 : decode cX5_fill 0 = .ok (.aload_n 0, 1) := by decide +kernel
theorem dX5_fill_1 : decode cX5_fill 1 = .ok (.invokevirtual 100, 3) := by decide +kernel
theorem dX5_fill_4 : decode cX5_fill 4 = .ok (.aload_n 0, 1) := by decide +kernel
theorem dX5_fill_5 : decode cX5_fill 5 = .ok (.iload_n 1, 1) := by decide +kernel
theorem dX5_fill_6 : decode cX5_fill 6 = .ok (.iload_n 2, 1) := by decide +kernel
theorem dX5_fill_7 : decode cX5_fill 7 = .ok (.invokevirtual 145, 3) := by decide +kernel
theorem dX5_fill_10 : decode cX5_fill 10 = .ok (.aload_n 0, 1) := by decide +kernel
theorem dX5_fill_11 : decode cX5_fill 11 = .ok (.iload_n 3, 1) := by decide +kernel
theorem dX5_fill_12 : decode cX5_fill 12 = .ok (.invokevirtual 173, 3) := by decide +kernel
theorem dX5_fill_15 : decode cX5_fill 15 = .ok (.aload_n 0, 1) := by decide +kernel
theorem dX5_fill_16 : decode cX5_fill 16 = .ok (.iload_n 1, 1) := by decide +kernel
theorem dX5_fill_17 : decode cX5_fill 17 = .ok (.iload_n 2, 1) := by decide +kernel
theorem dX5_fill_18 : decode cX5_fill 18 = .ok (.invokevirtual 197, 3) := by decide +kernel
theorem dX5_fill_21 : decode cX5_fill 21 = .ok (.aload_n 0, 1) := by decide +kernel
theorem dX5_fill_22 : decode cX5_fill 22 = .ok (.getfield 29, 3) := by decide +kernel
theorem dX5_fill_25 : decode cX5_fill 25 = .ok (.aload_n 0, 1) := by decide +kernel
theorem dX5_fill_26 : decode cX5_fill 26 = .ok (.getfield 10, 3) := by decide +kernel
theorem dX5_fill_29 : decode cX5_fill 29 = .ok (.getfield 74, 3) := by decide +kernel
theorem dX5_fill_32 : decode cX5_fill 32 = .ok (.invokevirtual 258, 3) := by decide +kernel
theorem dX5_fill_35 : decode cX5_fill 35 = .ok (.aload_n 0, 1) := by decide +kernel
theorem dX5_fill_36 : decode cX5_fill 36 = .ok (.getfield 10, 3) := by decide +kernel
theorem dX5_fill_39 : decode cX5_fill 39 = .ok (.iload_n 1, 1) := by decide +kernel
theorem dX5_fill_40 : decode cX5_fill 40 = .ok (.iload_n 2, 1) := by decide +kernel
theorem dX5_fill_41 : decode cX5_fill 41 = .ok (.iload_n 3, 1) := by decide +kernel
theorem dX5_fill_42 : decode cX5_fill 42 = .ok (.invokevirtual 203, 3) := by decide +kernel
theorem dX5_fill_45 : decode cX5_fill 45 = .ok (.ireturn, 1) := by decide +kernel
theorem dX5_exchange_0 : decode cX5_exchange 0 = .ok (.aload_n 0, 1) := by decide +kernel
theorem dX5_exchange_1 : decode cX5_exchange 1 = .ok (.invokevirtual 100, 3) := by decide +kernel
theorem dX5_exchange_4 : decode cX5_exchange 4 = .ok (.aload_n 0, 1) := by decide +kernel
theorem dX5_exchange_5 : decode cX5_exchange 5 = .ok (.iload_n 1, 1) := by decide +kernel
theorem dX5_exchange_6 : decode cX5_exchange 6 = .ok (.invokevirtual 111, 3) := by decide +kernel
theorem dX5_exchange_9 : decode cX5_exchange 9 = .ok (.aload_n 0, 1) := by decide +kernel
theorem dX5_exchange_10 : decode cX5_exchange 10 = .ok (.iload_n 2, 1) := by decide +kernel
theorem dX5_exchange_11 : decode cX5_exchange 11 = .ok (.invokevirtual 111, 3) := by decide +kernel
theorem dX5_exchange_14 : decode cX5_exchange 14 = .ok (.iload_n 1, 1) := by decide +kernel
theorem dX5_exchange_15 : decode cX5_exchange 15 = .ok (.iload_n 2, 1) := by decide +kernel
theorem dX5_exchange_16 : decode cX5_exchange 16 = .ok (.if_icmp .ne 14, 3) := by decide +kernel
theorem dX5_exchange_19 : decode cX5_exchange 19 = .ok (.new 69, 3) := by decide +kernel
theorem dX5_exchange_22 : decode cX5_exchange 22 = .ok (.dup, 1) := by decide +kernel
theorem dX5_exchange_23 : decode cX5_exchange 23 = .ok (.ldc_w 264, 3) := by decide +kernel
theorem dX5_exchange_26 : decode cX5_exchange 26 = .ok (.invokespecial 73, 3) := by decide +kernel
theorem dX5_exchange_29 : decode cX5_exchange 29 = .ok (.athrow, 1) := by decide +kernel
theorem dX5_exchange_30 : decode cX5_exchange 30 = .ok (.aload_n 0, 1) := by decide +kernel
theorem dX5_exchange_31 : decode cX5_exchange 31 = .ok (.iload_n 1, 1) := by decide +kernel
theorem dX5_exchange_32 : decode cX5_exchange 32 = .ok (.iload_n 1, 1) := by decide +kernel
theorem dX5_exchange_33 : decode cX5_exchange 33 = .ok (.invokevirtual 197, 3) := by decide +kernel
theorem dX5_exchange_36 : decode cX5_exchange 36 = .ok (.aload_n 0, 1) := by decide +kernel
theorem dX5_exchange_37 : decode cX5_exchange 37 = .ok (.iload_n 2, 1) := by decide +kernel
theorem dX5_exchange_38 : decode cX5_exchange 38 = .ok (.iload_n 2, 1) := by decide +kernel
theorem dX5_exchange_39 : decode cX5_exchange 39 = .ok (.invokevirtual 197, 3) := by decide +kernel
theorem dX5_exchange_42 : decode cX5_exchange 42 = .ok (.aload_n 0, 1) := by decide +kernel
theorem dX5_exchange_43 : decode cX5_exchange 43 = .ok (.getfield 29, 3) := by decide +kernel
theorem dX5_exchange_46 : decode cX5_exchange 46 = .ok (.aload_n 0, 1) := by decide +kernel
theorem dX5_exchange_47 : decode cX5_exchange 47 = .ok (.getfield 10, 3) := by decide +kernel
theorem dX5_exchange_50 : decode cX5_exchange 50 = .ok (.getfield 74, 3) := by decide +kernel
theorem dX5_exchange_53 : decode cX5_exchange 53 = .ok (.invokevirtual 258, 3) := by decide +kernel
theorem dX5_exchange_56 : decode cX5_exchange 56 = .ok (.aload_n 0, 1) := by decide +kernel
theorem dX5_exchange_57 : decode cX5_exchange 57 = .ok (.getfield 10, 3) := by decide +kernel
theorem dX5_exchange_60 : decode cX5_exchange 60 = .ok (.iload_n 1, 1) := by decide +kernel
theorem dX5_exchange_61 : decode cX5_exchange 61 = .ok (.iload_n 2, 1) := by decide +kernel
theorem dX5_exchange_62 : decode cX5_exchange 62 = .ok (.invokevirtual 266, 3) := by decide +kernel
theorem dX5_exchange_65 : decode cX5_exchange 65 = .ok (.ireturn, 1) := by decide +kernel
theorem dX5_move_0 : decode cX5_move 0 = .ok (.aload_n 0, 1) := by decide +kernel
theorem dX5_move_1 : decode cX5_move 1 = .ok (.invokevirtual 100, 3) := by decide +kernel
theorem dX5_move_4 : decode cX5_move 4 = .ok (.aload_n 0, 1) := by decide +kernel
theorem dX5_move_5 : decode cX5_move 5 = .ok (.iload_n 1, 1) := by decide +kernel
theorem dX5_move_6 : decode cX5_move 6 = .ok (.iload_n 2, 1) := by decide +kernel
theorem dX5_move_7 : decode cX5_move 7 = .ok (.iload_n 3, 1) := by decide +kernel
theorem dX5_move_8 : decode cX5_move 8 = .ok (.invokevirtual 255, 3) := by decide +kernel
theorem dX5_move_11 : decode cX5_move 11 = .ok (.iload_n 2, 1) := by decide +kernel
theorem dX5_move_12 : decode cX5_move 12 = .ok (.iload_n 1, 1) := by decide +kernel
theorem dX5_move_13 : decode cX5_move 13 = .ok (.if_icmp .ge 13, 3) := by decide +kernel
theorem dX5_move_16 : decode cX5_move 16 = .ok (.iload_n 1, 1) := by decide +kernel
theorem dX5_move_17 : decode cX5_move 17 = .ok (.iload_n 2, 1) := by decide +kernel
theorem dX5_move_18 : decode cX5_move 18 = .ok (.iload_n 3, 1) := by decide +kernel
theorem dX5_move_19 : decode cX5_move 19 = .ok (.iadd, 1) := by decide +kernel
theorem dX5_move_20 : decode cX5_move 20 = .ok (.invokestatic 212, 3) := by decide +kernel
theorem dX5_move_23 : decode cX5_move 23 = .ok (.goto 4, 3) := by decide +kernel
theorem dX5_move_26 : decode cX5_move 26 = .ok (.iload_n 1, 1) := by decide +kernel
theorem dX5_move_27 : decode cX5_move 27 = .ok (.istore 4, 2) := by decide +kernel
theorem dX5_move_29 : decode cX5_move 29 = .ok (.iload_n 2, 1) := by decide +kernel
theorem dX5_move_30 : decode cX5_move 30 = .ok (.iload_n 1, 1) := by decide +kernel
theorem dX5_move_31 : decode cX5_move 31 = .ok (.if_icmp .le 15, 3) := by decide +kernel
theorem dX5_move_34 : decode cX5_move 34 = .ok (.iload_n 1, 1) := by decide +kernel
theorem dX5_move_35 : decode cX5_move 35 = .ok (.iload_n 3, 1) := by decide +kernel
theorem dX5_move_36 : decode cX5_move 36 = .ok (.iadd, 1) := by decide +kernel
theorem dX5_move_37 : decode cX5_move 37 = .ok (.iload_n 2, 1) := by decide +kernel
theorem dX5_move_38 : decode cX5_move 38 = .ok (.invokestatic 269, 3) := by decide +kernel
theorem dX5_move_41 : decode cX5_move 41 = .ok (.iconst 1, 1) := by decide +kernel
theorem dX5_move_42 : decode cX5_move 42 = .ok (.isub, 1) := by decide +kernel
theorem dX5_move_43 : decode cX5_move 43 = .ok (.goto 8, 3) := by decide +kernel
theorem dX5_move_46 : decode cX5_move 46 = .ok (.iload_n 1, 1) := by decide +kernel
theorem dX5_move_47 : decode cX5_move 47 = .ok (.iload_n 3, 1) := by decide +kernel
theorem dX5_move_48 : decode cX5_move 48 = .ok (.iadd, 1) := by decide +kernel
theorem dX5_move_49 : decode cX5_move 49 = .ok (.iconst 1, 1) := by decide +kernel
theorem dX5_move_50 : decode cX5_move 50 = .ok (.isub, 1) := by decide +kernel
theorem dX5_move_51 : decode cX5_move 51 = .ok (.istore 5, 2) := by decide +kernel
theorem dX5_move_53 : decode cX5_move 53 = .ok (.iload_n 1, 1) := by decide +kernel
theorem dX5_move_54 : decode cX5_move 54 = .ok (.iload_n 2, 1) := by decide +kernel
theorem dX5_move_55 : decode cX5_move 55 = .ok (.if_icmp .eq 7, 3) := by decide +kernel
theorem dX5_move_58 : decode cX5_move 58 = .ok (.iconst 1, 1) := by decide +kernel
theorem dX5_move_59 : decode cX5_move 59 = .ok (.goto 4, 3) := by decide +kernel
theorem dX5_move_62 : decode cX5_move 62 = .ok (.iconst 0, 1) := by decide +kernel
theorem dX5_move_63 : decode cX5_move 63 = .ok (.istore 6, 2) := by decide +kernel
theorem dX5_move_65 : decode cX5_move 65 = .ok (.iload 6, 2) := by decide +kernel
theorem dX5_move_67 : decode cX5_move 67 = .ok (.ifCond .eq 11, 3) := by decide +kernel
theorem dX5_move_70 : decode cX5_move 70 = .ok (.aload_n 0, 1) := by decide +kernel
theorem dX5_move_71 : decode cX5_move 71 = .ok (.iload 4, 2) := by decide +kernel
theorem dX5_move_73 : decode cX5_move 73 = .ok (.iload 5, 2) := by decide +kernel
theorem dX5_move_75 : decode cX5_move 75 = .ok (.invokevirtual 197, 3) := by decide +kernel
theorem dX5_move_78 : decode cX5_move 78 = .ok (.aload_n 0, 1) := by decide +kernel
theorem dX5_move_79 : decode cX5_move 79 = .ok (.getfield 29, 3) := by decide +kernel
theorem dX5_move_82 : decode cX5_move 82 = .ok (.aload_n 0, 1) := by decide +kernel
theorem dX5_move_83 : decode cX5_move 83 = .ok (.getfield 10, 3) := by decide +kernel
theorem dX5_move_86 : decode cX5_move 86 = .ok (.getfield 74, 3) := by decide +kernel
theorem dX5_move_89 : decode cX5_move 89 = .ok (.invokevirtual 258, 3) := by decide +kernel
theorem dX5_move_92 : decode cX5_move 92 = .ok (.aload_n 0, 1) := by decide +kernel
theorem dX5_move_93 : decode cX5_move 93 = .ok (.getfield 10, 3) := by decide +kernel
theorem dX5_move_96 : decode cX5_move 96 = .ok (.iload_n 1, 1) := by decide +kernel
theorem dX5_move_97 : decode cX5_move 97 = .ok (.iload_n 2, 1) := by decide +kernel
theorem dX5_move_98 : decode cX5_move 98 = .ok (.iload_n 3, 1) := by decide +kernel
theorem dX5_move_99 : decode cX5_move 99 = .ok (.invokevirtual 261, 3) := by decide +kernel
theorem dX5_move_102 : decode cX5_move 102 = .ok (.istore 7, 2) := by decide +kernel
theorem dX5_move_104 : decode cX5_move 104 = .ok (.iload 6, 2) := by decide +kernel
theorem dX5_move_106 : decode cX5_move 106 = .ok (.ifCond .eq 16, 3) := by decide +kernel
theorem dX5_move_109 : decode cX5_move 109 = .ok (.aload_n 0, 1) := by decide +kernel
theorem dX5_move_110 : decode cX5_move 110 = .ok (.getfield 10, 3) := by decide +kernel
theorem dX5_move_113 : decode cX5_move 113 = .ok (.iload 4, 2) := by decide +kernel
theorem dX5_move_115 : decode cX5_move 115 = .ok (.iload 5, 2) := by decide +kernel
theorem dX5_move_117 : decode cX5_move 117 = .ok (.iconst 0, 1) := by decide +kernel
theorem dX5_move_118 : decode cX5_move 118 = .ok (.invokevirtual 203, 3) := by decide +kernel
theorem dX5_move_121 : decode cX5_move 121 = .ok (.pop, 1) := by decide +kernel
theorem dX5_move_122 : decode cX5_move 122 = .ok (.iload 7, 2) := by decide +kernel
theorem dX5_move_124 : decode cX5_move 124 = .ok (.ireturn, 1) := by decide +kernel
theorem dX5_fetch_0 : decode cX5_fetch 0 = .ok (.aload_n 0, 1) := by decide +kernel
theorem dX5_fetch_1 : decode cX5_fetch 1 = .ok (.invokevirtual 100, 3) := by decide +kernel
theorem dX5_fetch_4 : decode cX5_fetch 4 = .ok (.aload_n 0, 1) := by decide +kernel
theorem dX5_fetch_5 : decode cX5_fetch 5 = .ok (.iload_n 1, 1) := by decide +kernel
theorem dX5_fetch_6 : decode cX5_fetch 6 = .ok (.invokevirtual 111, 3) := by decide +kernel
theorem dX5_fetch_9 : decode cX5_fetch 9 = .ok (.aload_n 0, 1) := by decide +kernel
theorem dX5_fetch_10 : decode cX5_fetch 10 = .ok (.getfield 29, 3) := by decide +kernel
theorem dX5_fetch_13 : decode cX5_fetch 13 = .ok (.aload_n 0, 1) := by decide +kernel
theorem dX5_fetch_14 : decode cX5_fetch 14 = .ok (.getfield 10, 3) := by decide +kernel
theorem dX5_fetch_17 : decode cX5_fetch 17 = .ok (.getfield 74, 3) := by decide +kernel
theorem dX5_fetch_20 : decode cX5_fetch 20 = .ok (.invokevirtual 258, 3) := by decide +kernel
theorem dX5_fetch_23 : decode cX5_fetch 23 = .ok (.aload_n 0, 1) := by decide +kernel
theorem dX5_fetch_24 : decode cX5_fetch 24 = .ok (.getfield 10, 3) := by decide +kernel
theorem dX5_fetch_27 : decode cX5_fetch 27 = .ok (.iload_n 1, 1) := by decide +kernel
theorem dX5_fetch_28 : decode cX5_fetch 28 = .ok (.invokevirtual 272, 3) := by decide +kernel
theorem dX5_fetch_31 : decode cX5_fetch 31 = .ok (.ireturn, 1) := by decide +kernel
theorem dX5_tick_0 : decode cX5_tick 0 = .ok (.aload_n 0, 1) := by decide +kernel
theorem dX5_tick_1 : decode cX5_tick 1 = .ok (.invokevirtual 100, 3) := by decide +kernel
theorem dX5_tick_4 : decode cX5_tick 4 = .ok (.aload_n 0, 1) := by decide +kernel
theorem dX5_tick_5 : decode cX5_tick 5 = .ok (.iload_n 1, 1) := by decide +kernel
theorem dX5_tick_6 : decode cX5_tick 6 = .ok (.invokevirtual 209, 3) := by decide +kernel
theorem dX5_tick_9 : decode cX5_tick 9 = .ok (.aload_n 0, 1) := by decide +kernel
theorem dX5_tick_10 : decode cX5_tick 10 = .ok (.getfield 29, 3) := by decide +kernel
theorem dX5_tick_13 : decode cX5_tick 13 = .ok (.aload_n 0, 1) := by decide +kernel
theorem dX5_tick_14 : decode cX5_tick 14 = .ok (.getfield 10, 3) := by decide +kernel
theorem dX5_tick_17 : decode cX5_tick 17 = .ok (.getfield 74, 3) := by decide +kernel
theorem dX5_tick_20 : decode cX5_tick 20 = .ok (.invokevirtual 258, 3) := by decide +kernel
theorem dX5_tick_23 : decode cX5_tick 23 = .ok (.aload_n 0, 1) := by decide +kernel
theorem dX5_tick_24 : decode cX5_tick 24 = .ok (.getfield 10, 3) := by decide +kernel
theorem dX5_tick_27 : decode cX5_tick 27 = .ok (.iload_n 1, 1) := by decide +kernel
theorem dX5_tick_28 : decode cX5_tick 28 = .ok (.invokevirtual 220, 3) := by decide +kernel
theorem dX5_tick_31 : decode cX5_tick 31 = .ok (.ireturn, 1) := by decide +kernel
theorem dX5_payRange_0 : decode cX5_payRange 0 = .ok (.aload_n 0, 1) := by decide +kernel
theorem dX5_payRange_1 : decode cX5_payRange 1 = .ok (.invokevirtual 100, 3) := by decide +kernel
theorem dX5_payRange_4 : decode cX5_payRange 4 = .ok (.aload_n 0, 1) := by decide +kernel
theorem dX5_payRange_5 : decode cX5_payRange 5 = .ok (.iload_n 1, 1) := by decide +kernel
theorem dX5_payRange_6 : decode cX5_payRange 6 = .ok (.iload_n 2, 1) := by decide +kernel
theorem dX5_payRange_7 : decode cX5_payRange 7 = .ok (.invokevirtual 145, 3) := by decide +kernel
theorem dX5_payRange_10 : decode cX5_payRange 10 = .ok (.aload_n 0, 1) := by decide +kernel
theorem dX5_payRange_11 : decode cX5_payRange 11 = .ok (.getfield 29, 3) := by decide +kernel
theorem dX5_payRange_14 : decode cX5_payRange 14 = .ok (.aload_n 0, 1) := by decide +kernel
theorem dX5_payRange_15 : decode cX5_payRange 15 = .ok (.getfield 10, 3) := by decide +kernel
theorem dX5_payRange_18 : decode cX5_payRange 18 = .ok (.getfield 74, 3) := by decide +kernel
theorem dX5_payRange_21 : decode cX5_payRange 21 = .ok (.invokevirtual 258, 3) := by decide +kernel
theorem dX5_payRange_24 : decode cX5_payRange 24 = .ok (.aload_n 0, 1) := by decide +kernel
theorem dX5_payRange_25 : decode cX5_payRange 25 = .ok (.getfield 10, 3) := by decide +kernel
theorem dX5_payRange_28 : decode cX5_payRange 28 = .ok (.iload_n 1, 1) := by decide +kernel
theorem dX5_payRange_29 : decode cX5_payRange 29 = .ok (.iload_n 2, 1) := by decide +kernel
theorem dX5_payRange_30 : decode cX5_payRange 30 = .ok (.invokevirtual 275, 3) := by decide +kernel
theorem dX5_payRange_33 : decode cX5_payRange 33 = .ok (.ireturn, 1) := by decide +kernel
theorem dX5_shorten_0 : decode cX5_shorten 0 = .ok (.aload_n 0, 1) := by decide +kernel
theorem dX5_shorten_1 : decode cX5_shorten 1 = .ok (.invokevirtual 100, 3) := by decide +kernel
theorem dX5_shorten_4 : decode cX5_shorten 4 = .ok (.aload_n 0, 1) := by decide +kernel
theorem dX5_shorten_5 : decode cX5_shorten 5 = .ok (.iload_n 1, 1) := by decide +kernel
theorem dX5_shorten_6 : decode cX5_shorten 6 = .ok (.invokevirtual 111, 3) := by decide +kernel
theorem dX5_shorten_9 : decode cX5_shorten 9 = .ok (.aload_n 0, 1) := by decide +kernel
theorem dX5_shorten_10 : decode cX5_shorten 10 = .ok (.getfield 10, 3) := by decide +kernel
theorem dX5_shorten_13 : decode cX5_shorten 13 = .ok (.getfield 74, 3) := by decide +kernel
theorem dX5_shorten_16 : decode cX5_shorten 16 = .ok (.iload_n 1, 1) := by decide +kernel
theorem dX5_shorten_17 : decode cX5_shorten 17 = .ok (.invokevirtual 151, 3) := by decide +kernel
theorem dX5_shorten_20 : decode cX5_shorten 20 = .ok (.ifCond .ne 14, 3) := by decide +kernel
theorem dX5_shorten_23 : decode cX5_shorten 23 = .ok (.new 69, 3) := by decide +kernel
theorem dX5_shorten_26 : decode cX5_shorten 26 = .ok (.dup, 1) := by decide +kernel
theorem dX5_shorten_27 : decode cX5_shorten 27 = .ok (.ldc_w 278, 3) := by decide +kernel
theorem dX5_shorten_30 : decode cX5_shorten 30 = .ok (.invokespecial 73, 3) := by decide +kernel
theorem dX5_shorten_33 : decode cX5_shorten 33 = .ok (.athrow, 1) := by decide +kernel
theorem dX5_shorten_34 : decode cX5_shorten 34 = .ok (.aload_n 0, 1) := by decide +kernel
theorem dX5_shorten_35 : decode cX5_shorten 35 = .ok (.getfield 29, 3) := by decide +kernel
theorem dX5_shorten_38 : decode cX5_shorten 38 = .ok (.aload_n 0, 1) := by decide +kernel
theorem dX5_shorten_39 : decode cX5_shorten 39 = .ok (.getfield 10, 3) := by decide +kernel
theorem dX5_shorten_42 : decode cX5_shorten 42 = .ok (.getfield 74, 3) := by decide +kernel
theorem dX5_shorten_45 : decode cX5_shorten 45 = .ok (.invokevirtual 258, 3) := by decide +kernel
theorem dX5_shorten_48 : decode cX5_shorten 48 = .ok (.aload_n 0, 1) := by decide +kernel
theorem dX5_shorten_49 : decode cX5_shorten 49 = .ok (.getfield 10, 3) := by decide +kernel
theorem dX5_shorten_52 : decode cX5_shorten 52 = .ok (.getfield 74, 3) := by decide +kernel
theorem dX5_shorten_55 : decode cX5_shorten 55 = .ok (.iload_n 1, 1) := by decide +kernel
theorem dX5_shorten_56 : decode cX5_shorten 56 = .ok (.invokevirtual 127, 3) := by decide +kernel
theorem dX5_shorten_59 : decode cX5_shorten 59 = .ok (.istore_n 2, 1) := by decide +kernel
theorem dX5_shorten_60 : decode cX5_shorten 60 = .ok (.aload_n 0, 1) := by decide +kernel
theorem dX5_shorten_61 : decode cX5_shorten 61 = .ok (.getfield 10, 3) := by decide +kernel
theorem dX5_shorten_64 : decode cX5_shorten 64 = .ok (.getfield 74, 3) := by decide +kernel
theorem dX5_shorten_67 : decode cX5_shorten 67 = .ok (.getfield 121, 3) := by decide +kernel
theorem dX5_shorten_70 : decode cX5_shorten 70 = .ok (.iload_n 1, 1) := by decide +kernel
theorem dX5_shorten_71 : decode cX5_shorten 71 = .ok (.aload_n 0, 1) := by decide +kernel
theorem dX5_shorten_72 : decode cX5_shorten 72 = .ok (.getfield 10, 3) := by decide +kernel
theorem dX5_shorten_75 : decode cX5_shorten 75 = .ok (.getfield 74, 3) := by decide +kernel
theorem dX5_shorten_78 : decode cX5_shorten 78 = .ok (.iload_n 1, 1) := by decide +kernel
theorem dX5_shorten_79 : decode cX5_shorten 79 = .ok (.invokevirtual 130, 3) := by decide +kernel
theorem dX5_shorten_82 : decode cX5_shorten 82 = .ok (.iastore, 1) := by decide +kernel
theorem dX5_shorten_83 : decode cX5_shorten 83 = .ok (.iload_n 2, 1) := by decide +kernel
theorem dX5_shorten_84 : decode cX5_shorten 84 = .ok (.iconst 1, 1) := by decide +kernel
theorem dX5_shorten_85 : decode cX5_shorten 85 = .ok (.isub, 1) := by decide +kernel
theorem dX5_shorten_86 : decode cX5_shorten 86 = .ok (.ireturn, 1) := by decide +kernel
theorem dX5_setLock_0 : decode cX5_setLock 0 = .ok (.aload_n 0, 1) := by decide +kernel
theorem dX5_setLock_1 : decode cX5_setLock 1 = .ok (.invokevirtual 100, 3) := by decide +kernel
theorem dX5_setLock_4 : decode cX5_setLock 4 = .ok (.aload_n 0, 1) := by decide +kernel
theorem dX5_setLock_5 : decode cX5_setLock 5 = .ok (.iload_n 1, 1) := by decide +kernel
theorem dX5_setLock_6 : decode cX5_setLock 6 = .ok (.invokevirtual 111, 3) := by decide +kernel
theorem dX5_setLock_9 : decode cX5_setLock 9 = .ok (.aload_n 0, 1) := by decide +kernel
theorem dX5_setLock_10 : decode cX5_setLock 10 = .ok (.getfield 29, 3) := by decide +kernel
theorem dX5_setLock_13 : decode cX5_setLock 13 = .ok (.aload_n 0, 1) := by decide +kernel
theorem dX5_setLock_14 : decode cX5_setLock 14 = .ok (.getfield 10, 3) := by decide +kernel
theorem dX5_setLock_17 : decode cX5_setLock 17 = .ok (.getfield 74, 3) := by decide +kernel
theorem dX5_setLock_20 : decode cX5_setLock 20 = .ok (.invokevirtual 258, 3) := by decide +kernel
theorem dX5_setLock_23 : decode cX5_setLock 23 = .ok (.iload_n 2, 1) := by decide +kernel
theorem dX5_setLock_24 : decode cX5_setLock 24 = .ok (.ifCond .eq 13, 3) := by decide +kernel
theorem dX5_setLock_27 : decode cX5_setLock 27 = .ok (.aload_n 0, 1) := by decide +kernel
theorem dX5_setLock_28 : decode cX5_setLock 28 = .ok (.getfield 10, 3) := by decide +kernel
theorem dX5_setLock_31 : decode cX5_setLock 31 = .ok (.iload_n 1, 1) := by decide +kernel
theorem dX5_setLock_32 : decode cX5_setLock 32 = .ok (.iload_n 1, 1) := by decide +kernel
theorem dX5_setLock_33 : decode cX5_setLock 33 = .ok (.invokevirtual 280, 3) := by decide +kernel
theorem dX5_setLock_36 : decode cX5_setLock 36 = .ok (.ireturn, 1) := by decide +kernel
theorem dX5_setLock_37 : decode cX5_setLock 37 = .ok (.aload_n 0, 1) := by decide +kernel
theorem dX5_setLock_38 : decode cX5_setLock 38 = .ok (.getfield 10, 3) := by decide +kernel
theorem dX5_setLock_41 : decode cX5_setLock 41 = .ok (.getfield 74, 3) := by decide +kernel
theorem dX5_setLock_44 : decode cX5_setLock 44 = .ok (.getfield 133, 3) := by decide +kernel
theorem dX5_setLock_47 : decode cX5_setLock 47 = .ok (.iload_n 1, 1) := by decide +kernel
theorem dX5_setLock_48 : decode cX5_setLock 48 = .ok (.iconst 0, 1) := by decide +kernel
theorem dX5_setLock_49 : decode cX5_setLock 49 = .ok (.bastore, 1) := by decide +kernel
theorem dX5_setLock_50 : decode cX5_setLock 50 = .ok (.iconst 0, 1) := by decide +kernel
theorem dX5_setLock_51 : decode cX5_setLock 51 = .ok (.ireturn, 1) := by decide +kernel
theorem dX5_setSetting_0 : decode cX5_setSetting 0 = .ok (.aload_n 0, 1) := by decide +kernel
theorem dX5_setSetting_1 : decode cX5_setSetting 1 = .ok (.invokevirtual 100, 3) := by decide +kernel
theorem dX5_setSetting_4 : decode cX5_setSetting 4 = .ok (.aload_n 0, 1) := by decide +kernel
theorem dX5_setSetting_5 : decode cX5_setSetting 5 = .ok (.iload_n 1, 1) := by decide +kernel
theorem dX5_setSetting_6 : decode cX5_setSetting 6 = .ok (.iconst 5, 1) := by decide +kernel
theorem dX5_setSetting_7 : decode cX5_setSetting 7 = .ok (.invokevirtual 103, 3) := by decide +kernel
theorem dX5_setSetting_10 : decode cX5_setSetting 10 = .ok (.iload_n 2, 1) := by decide +kernel
theorem dX5_setSetting_11 : decode cX5_setSetting 11 = .ok (.iload_n 1, 1) := by decide +kernel
theorem dX5_setSetting_12 : decode cX5_setSetting 12 = .ok (.invokestatic 283, 3) := by decide +kernel
theorem dX5_setSetting_15 : decode cX5_setSetting 15 = .ok (.if_icmp .lt 11, 3) := by decide +kernel
theorem dX5_setSetting_18 : decode cX5_setSetting 18 = .ok (.iload_n 2, 1) := by decide +kernel
theorem dX5_setSetting_19 : decode cX5_setSetting 19 = .ok (.iload_n 1, 1) := by decide +kernel
theorem dX5_setSetting_20 : decode cX5_setSetting 20 = .ok (.invokestatic 286, 3) := by decide +kernel
theorem dX5_setSetting_23 : decode cX5_setSetting 23 = .ok (.if_icmp .le 14, 3) := by decide +kernel
theorem dX5_setSetting_26 : decode cX5_setSetting 26 = .ok (.new 69, 3) := by decide +kernel
theorem dX5_setSetting_29 : decode cX5_setSetting 29 = .ok (.dup, 1) := by decide +kernel
theorem dX5_setSetting_30 : decode cX5_setSetting 30 = .ok (.ldc_w 289, 3) := by decide +kernel
theorem dX5_setSetting_33 : decode cX5_setSetting 33 = .ok (.invokespecial 73, 3) := by decide +kernel
theorem dX5_setSetting_36 : decode cX5_setSetting 36 = .ok (.athrow, 1) := by decide +kernel
theorem dX5_setSetting_37 : decode cX5_setSetting 37 = .ok (.aload_n 0, 1) := by decide +kernel
theorem dX5_setSetting_38 : decode cX5_setSetting 38 = .ok (.getfield 29, 3) := by decide +kernel
theorem dX5_setSetting_41 : decode cX5_setSetting 41 = .ok (.aload_n 0, 1) := by decide +kernel
theorem dX5_setSetting_42 : decode cX5_setSetting 42 = .ok (.getfield 10, 3) := by decide +kernel
theorem dX5_setSetting_45 : decode cX5_setSetting 45 = .ok (.getfield 74, 3) := by decide +kernel
theorem dX5_setSetting_48 : decode cX5_setSetting 48 = .ok (.invokevirtual 258, 3) := by decide +kernel
theorem dX5_setSetting_51 : decode cX5_setSetting 51 = .ok (.aload_n 0, 1) := by decide +kernel
theorem dX5_setSetting_52 : decode cX5_setSetting 52 = .ok (.getfield 10, 3) := by decide +kernel
theorem dX5_setSetting_55 : decode cX5_setSetting 55 = .ok (.getfield 74, 3) := by decide +kernel
theorem dX5_setSetting_58 : decode cX5_setSetting 58 = .ok (.getfield 107, 3) := by decide +kernel
theorem dX5_setSetting_61 : decode cX5_setSetting 61 = .ok (.iload_n 1, 1) := by decide +kernel
theorem dX5_setSetting_62 : decode cX5_setSetting 62 = .ok (.iaload, 1) := by decide +kernel
theorem dX5_setSetting_63 : decode cX5_setSetting 63 = .ok (.istore_n 3, 1) := by decide +kernel
theorem dX5_setSetting_64 : decode cX5_setSetting 64 = .ok (.aload_n 0, 1) := by decide +kernel
theorem dX5_setSetting_65 : decode cX5_setSetting 65 = .ok (.getfield 10, 3) := by decide +kernel
theorem dX5_setSetting_68 : decode cX5_setSetting 68 = .ok (.getfield 74, 3) := by decide +kernel
theorem dX5_setSetting_71 : decode cX5_setSetting 71 = .ok (.getfield 107, 3) := by decide +kernel
theorem dX5_setSetting_74 : decode cX5_setSetting 74 = .ok (.iload_n 1, 1) := by decide +kernel
theorem dX5_setSetting_75 : decode cX5_setSetting 75 = .ok (.iload_n 2, 1) := by decide +kernel
theorem dX5_setSetting_76 : decode cX5_setSetting 76 = .ok (.iastore, 1) := by decide +kernel
theorem dX5_setSetting_77 : decode cX5_setSetting 77 = .ok (.aload_n 0, 1) := by decide +kernel
theorem dX5_setSetting_78 : decode cX5_setSetting 78 = .ok (.getfield 10, 3) := by decide +kernel
theorem dX5_setSetting_81 : decode cX5_setSetting 81 = .ok (.invokevirtual 291, 3) := by decide +kernel
theorem dX5_setSetting_84 : decode cX5_setSetting 84 = .ok (.iload_n 3, 1) := by decide +kernel
theorem dX5_setSetting_85 : decode cX5_setSetting 85 = .ok (.ireturn, 1) := by decide +kernel
theorem dX5_undo_0 : decode cX5_undo 0 = .ok (.aload_n 0, 1) := by decide +kernel
theorem dX5_undo_1 : decode cX5_undo 1 = .ok (.getfield 29, 3) := by decide +kernel
theorem dX5_undo_4 : decode cX5_undo 4 = .ok (.getfield 294, 3) := by decide +kernel
theorem dX5_undo_7 : decode cX5_undo 7 = .ok (.ifCond .ne 14, 3) := by decide +kernel
theorem dX5_undo_10 : decode cX5_undo 10 = .ok (.new 297, 3) := by decide +kernel
theorem dX5_undo_13 : decode cX5_undo 13 = .ok (.dup, 1) := by decide +kernel
theorem dX5_undo_14 : decode cX5_undo 14 = .ok (.ldc_w 299, 3) := by decide +kernel
theorem dX5_undo_17 : decode cX5_undo 17 = .ok (.invokespecial 301, 3) := by decide +kernel
theorem dX5_undo_20 : decode cX5_undo 20 = .ok (.athrow, 1) := by decide +kernel
theorem dX5_undo_21 : decode cX5_undo 21 = .ok (.aload_n 0, 1) := by decide +kernel
theorem dX5_undo_22 : decode cX5_undo 22 = .ok (.getfield 29, 3) := by decide +kernel
theorem dX5_undo_25 : decode cX5_undo 25 = .ok (.aload_n 0, 1) := by decide +kernel
theorem dX5_undo_26 : decode cX5_undo 26 = .ok (.getfield 10, 3) := by decide +kernel
theorem dX5_undo_29 : decode cX5_undo 29 = .ok (.getfield 74, 3) := by decide +kernel
theorem dX5_undo_32 : decode cX5_undo 32 = .ok (.invokevirtual 302, 3) := by decide +kernel
theorem dX5_undo_35 : decode cX5_undo 35 = .ok (.aload_n 0, 1) := by decide +kernel
theorem dX5_undo_36 : decode cX5_undo 36 = .ok (.getfield 29, 3) := by decide +kernel
theorem dX5_undo_39 : decode cX5_undo 39 = .ok (.getfield 294, 3) := by decide +kernel
theorem dX5_undo_42 : decode cX5_undo 42 = .ok (.ireturn, 1) := by decide +kernel
theorem dX5_undoable_0 : decode cX5_undoable 0 = .ok (.aload_n 0, 1) := by decide +kernel
theorem dX5_undoable_1 : decode cX5_undoable 1 = .ok (.getfield 29, 3) := by decide +kernel
theorem dX5_undoable_4 : decode cX5_undoable 4 = .ok (.getfield 294, 3) := by decide +kernel
theorem dX5_undoable_7 : decode cX5_undoable 7 = .ok (.ireturn, 1) := by decide +kernel
theorem dX5_save_0 : decode cX5_save 0 = .ok (.aload_n 0, 1) := by decide +kernel
theorem dX5_save_1 : decode cX5_save 1 = .ok (.invokevirtual 100, 3) := by decide +kernel
theorem dX5_save_4 : decode cX5_save 4 = .ok (.aload_n 0, 1) := by decide +kernel
theorem dX5_save_5 : decode cX5_save 5 = .ok (.iload_n 1, 1) := by decide +kernel
theorem dX5_save_6 : decode cX5_save 6 = .ok (.invokevirtual 305, 3) := by decide +kernel
theorem dX5_save_9 : decode cX5_save 9 = .ok (.aload_n 0, 1) := by decide +kernel
theorem dX5_save_10 : decode cX5_save 10 = .ok (.getfield 35, 3) := by decide +kernel
theorem dX5_save_13 : decode cX5_save 13 = .ok (.iload_n 1, 1) := by decide +kernel
theorem dX5_save_14 : decode cX5_save 14 = .ok (.aaload, 1) := by decide +kernel
theorem dX5_save_15 : decode cX5_save 15 = .ok (.aload_n 0, 1) := by decide +kernel
theorem dX5_save_16 : decode cX5_save 16 = .ok (.getfield 10, 3) := by decide +kernel
theorem dX5_save_19 : decode cX5_save 19 = .ok (.getfield 74, 3) := by decide +kernel
theorem dX5_save_22 : decode cX5_save 22 = .ok (.invokevirtual 81, 3) := by decide +kernel
theorem dX5_save_25 : decode cX5_save 25 = .ok (.aload_n 0, 1) := by decide +kernel
theorem dX5_save_26 : decode cX5_save 26 = .ok (.getfield 10, 3) := by decide +kernel
theorem dX5_save_29 : decode cX5_save 29 = .ok (.getfield 74, 3) := by decide +kernel
theorem dX5_save_32 : decode cX5_save 32 = .ok (.invokevirtual 141, 3) := by decide +kernel
theorem dX5_save_35 : decode cX5_save 35 = .ok (.ireturn, 1) := by decide +kernel
theorem dX5_restore_0 : decode cX5_restore 0 = .ok (.aload_n 0, 1) := by decide +kernel
theorem dX5_restore_1 : decode cX5_restore 1 = .ok (.iload_n 1, 1) := by decide +kernel
theorem dX5_restore_2 : decode cX5_restore 2 = .ok (.invokevirtual 305, 3) := by decide +kernel
theorem dX5_restore_5 : decode cX5_restore 5 = .ok (.aload_n 0, 1) := by decide +kernel
theorem dX5_restore_6 : decode cX5_restore 6 = .ok (.getfield 35, 3) := by decide +kernel
theorem dX5_restore_9 : decode cX5_restore 9 = .ok (.iload_n 1, 1) := by decide +kernel
theorem dX5_restore_10 : decode cX5_restore 10 = .ok (.aaload, 1) := by decide +kernel
theorem dX5_restore_11 : decode cX5_restore 11 = .ok (.getfield 91, 3) := by decide +kernel
theorem dX5_restore_14 : decode cX5_restore 14 = .ok (.ifCond .ne 14, 3) := by decide +kernel
theorem dX5_restore_17 : decode cX5_restore 17 = .ok (.new 297, 3) := by decide +kernel
theorem dX5_restore_20 : decode cX5_restore 20 = .ok (.dup, 1) := by decide +kernel
theorem dX5_restore_21 : decode cX5_restore 21 = .ok (.ldc_w 308, 3) := by decide +kernel
theorem dX5_restore_24 : decode cX5_restore 24 = .ok (.invokespecial 301, 3) := by decide +kernel
theorem dX5_restore_27 : decode cX5_restore 27 = .ok (.athrow, 1) := by decide +kernel
theorem dX5_restore_28 : decode cX5_restore 28 = .ok (.aload_n 0, 1) := by decide +kernel
theorem dX5_restore_29 : decode cX5_restore 29 = .ok (.getfield 10, 3) := by decide +kernel
theorem dX5_restore_32 : decode cX5_restore 32 = .ok (.getfield 74, 3) := by decide +kernel
theorem dX5_restore_35 : decode cX5_restore 35 = .ok (.aload_n 0, 1) := by decide +kernel
theorem dX5_restore_36 : decode cX5_restore 36 = .ok (.getfield 35, 3) := by decide +kernel
theorem dX5_restore_39 : decode cX5_restore 39 = .ok (.iload_n 1, 1) := by decide +kernel
theorem dX5_restore_40 : decode cX5_restore 40 = .ok (.aaload, 1) := by decide +kernel
theorem dX5_restore_41 : decode cX5_restore 41 = .ok (.invokevirtual 81, 3) := by decide +kernel
theorem dX5_restore_44 : decode cX5_restore 44 = .ok (.aload_n 0, 1) := by decide +kernel
theorem dX5_restore_45 : decode cX5_restore 45 = .ok (.getfield 29, 3) := by decide +kernel
theorem dX5_restore_48 : decode cX5_restore 48 = .ok (.invokevirtual 85, 3) := by decide +kernel
theorem dX5_restore_51 : decode cX5_restore 51 = .ok (.aload_n 0, 1) := by decide +kernel
theorem dX5_restore_52 : decode cX5_restore 52 = .ok (.getfield 10, 3) := by decide +kernel
theorem dX5_restore_55 : decode cX5_restore 55 = .ok (.getfield 74, 3) := by decide +kernel
theorem dX5_restore_58 : decode cX5_restore 58 = .ok (.invokevirtual 141, 3) := by decide +kernel
theorem dX5_restore_61 : decode cX5_restore 61 = .ok (.ireturn, 1) := by decide +kernel
theorem dX5_needMemory_0 : decode cX5_needMemory 0 = .ok (.aload_n 0, 1) := by decide +kernel
theorem dX5_needMemory_1 : decode cX5_needMemory 1 = .ok (.getfield 10, 3) := by decide +kernel
theorem dX5_needMemory_4 : decode cX5_needMemory 4 = .ok (.getfield 74, 3) := by decide +kernel
theorem dX5_needMemory_7 : decode cX5_needMemory 7 = .ok (.getfield 91, 3) := by decide +kernel
theorem dX5_needMemory_10 : decode cX5_needMemory 10 = .ok (.ifCond .ne 14, 3) := by decide +kernel
theorem dX5_needMemory_13 : decode cX5_needMemory 13 = .ok (.new 297, 3) := by decide +kernel
theorem dX5_needMemory_16 : decode cX5_needMemory 16 = .ok (.dup, 1) := by decide +kernel
theorem dX5_needMemory_17 : decode cX5_needMemory 17 = .ok (.ldc_w 310, 3) := by decide +kernel
theorem dX5_needMemory_20 : decode cX5_needMemory 20 = .ok (.invokespecial 301, 3) := by decide +kernel
theorem dX5_needMemory_23 : decode cX5_needMemory 23 = .ok (.athrow, 1) := by decide +kernel
theorem dX5_needMemory_24 : decode cX5_needMemory 24 = .ok (.return_, 1) := by decide +kernel
theorem dX5_needPlace_0 : decode cX5_needPlace 0 = .ok (.aload_n 0, 1) := by decide +kernel
theorem dX5_needPlace_1 : decode cX5_needPlace 1 = .ok (.getfield 10, 3) := by decide +kernel
theorem dX5_needPlace_4 : decode cX5_needPlace 4 = .ok (.getfield 74, 3) := by decide +kernel
theorem dX5_needPlace_7 : decode cX5_needPlace 7 = .ok (.iload_n 1, 1) := by decide +kernel
theorem dX5_needPlace_8 : decode cX5_needPlace 8 = .ok (.invokevirtual 312, 3) := by decide +kernel
theorem dX5_needPlace_11 : decode cX5_needPlace 11 = .ok (.ifCond .ne 14, 3) := by decide +kernel
theorem dX5_needPlace_14 : decode cX5_needPlace 14 = .ok (.new 59, 3) := by decide +kernel
theorem dX5_needPlace_17 : decode cX5_needPlace 17 = .ok (.dup, 1) := by decide +kernel
theorem dX5_needPlace_18 : decode cX5_needPlace 18 = .ok (.ldc_w 315, 3) := by decide +kernel
theorem dX5_needPlace_21 : decode cX5_needPlace 21 = .ok (.invokespecial 63, 3) := by decide +kernel
theorem dX5_needPlace_24 : decode cX5_needPlace 24 = .ok (.athrow, 1) := by decide +kernel
theorem dX5_needPlace_25 : decode cX5_needPlace 25 = .ok (.return_, 1) := by decide +kernel
theorem dX5_needRow_0 : decode cX5_needRow 0 = .ok (.aload_n 0, 1) := by decide +kernel
theorem dX5_needRow_1 : decode cX5_needRow 1 = .ok (.iload_n 1, 1) := by decide +kernel
theorem dX5_needRow_2 : decode cX5_needRow 2 = .ok (.invokevirtual 111, 3) := by decide +kernel
theorem dX5_needRow_5 : decode cX5_needRow 5 = .ok (.aload_n 0, 1) := by decide +kernel
theorem dX5_needRow_6 : decode cX5_needRow 6 = .ok (.iload_n 2, 1) := by decide +kernel
theorem dX5_needRow_7 : decode cX5_needRow 7 = .ok (.invokevirtual 111, 3) := by decide +kernel
theorem dX5_needRow_10 : decode cX5_needRow 10 = .ok (.iload_n 2, 1) := by decide +kernel
theorem dX5_needRow_11 : decode cX5_needRow 11 = .ok (.iload_n 1, 1) := by decide +kernel
theorem dX5_needRow_12 : decode cX5_needRow 12 = .ok (.if_icmp .ge 14, 3) := by decide +kernel
theorem dX5_needRow_15 : decode cX5_needRow 15 = .ok (.new 69, 3) := by decide +kernel
theorem dX5_needRow_18 : decode cX5_needRow 18 = .ok (.dup, 1) := by decide +kernel
theorem dX5_needRow_19 : decode cX5_needRow 19 = .ok (.ldc_w 317, 3) := by decide +kernel
theorem dX5_needRow_22 : decode cX5_needRow 22 = .ok (.invokespecial 73, 3) := by decide +kernel
theorem dX5_needRow_25 : decode cX5_needRow 25 = .ok (.athrow, 1) := by decide +kernel
theorem dX5_needRow_26 : decode cX5_needRow 26 = .ok (.return_, 1) := by decide +kernel
theorem dX5_needPart_0 : decode cX5_needPart 0 = .ok (.iload_n 1, 1) := by decide +kernel
theorem dX5_needPart_1 : decode cX5_needPart 1 = .ok (.ifCond .lt 8, 3) := by decide +kernel
theorem dX5_needPart_4 : decode cX5_needPart 4 = .ok (.iload_n 1, 1) := by decide +kernel
theorem dX5_needPart_5 : decode cX5_needPart 5 = .ok (.iload_n 2, 1) := by decide +kernel
theorem dX5_needPart_6 : decode cX5_needPart 6 = .ok (.if_icmp .lt 13, 3) := by decide +kernel
theorem dX5_needPart_9 : decode cX5_needPart 9 = .ok (.new 69, 3) := by decide +kernel
theorem dX5_needPart_12 : decode cX5_needPart 12 = .ok (.dup, 1) := by decide +kernel
theorem dX5_needPart_13 : decode cX5_needPart 13 = .ok (.ldc 165, 2) := by decide +kernel
theorem dX5_needPart_15 : decode cX5_needPart 15 = .ok (.invokespecial 73, 3) := by decide +kernel
theorem dX5_needPart_18 : decode cX5_needPart 18 = .ok (.athrow, 1) := by decide +kernel
theorem dX5_needPart_19 : decode cX5_needPart 19 = .ok (.return_, 1) := by decide +kernel
theorem dX5_needByte_0 : decode cX5_needByte 0 = .ok (.iload_n 1, 1) := by decide +kernel
theorem dX5_needByte_1 : decode cX5_needByte 1 = .ok (.ifCond .lt 10, 3) := by decide +kernel
theorem dX5_needByte_4 : decode cX5_needByte 4 = .ok (.iload_n 1, 1) := by decide +kernel
theorem dX5_needByte_5 : decode cX5_needByte 5 = .ok (.sipush 255, 3) := by decide +kernel
theorem dX5_needByte_8 : decode cX5_needByte 8 = .ok (.if_icmp .le 14, 3) := by decide +kernel
theorem dX5_needByte_11 : decode cX5_needByte 11 = .ok (.new 69, 3) := by decide +kernel
theorem dX5_needByte_14 : decode cX5_needByte 14 = .ok (.dup, 1) := by decide +kernel
theorem dX5_needByte_15 : decode cX5_needByte 15 = .ok (.ldc_w 319, 3) := by decide +kernel
theorem dX5_needByte_18 : decode cX5_needByte 18 = .ok (.invokespecial 73, 3) := by decide +kernel
theorem dX5_needByte_21 : decode cX5_needByte 21 = .ok (.athrow, 1) := by decide +kernel
theorem dX5_needByte_22 : decode cX5_needByte 22 = .ok (.return_, 1) := by decide +kernel
theorem dX5_needTicks_0 : decode cX5_needTicks 0 = .ok (.iload_n 1, 1) := by decide +kernel
theorem dX5_needTicks_1 : decode cX5_needTicks 1 = .ok (.iconst 1, 1) := by decide +kernel
theorem dX5_needTicks_2 : decode cX5_needTicks 2 = .ok (.if_icmp .lt 9, 3) := by decide +kernel
theorem dX5_needTicks_5 : decode cX5_needTicks 5 = .ok (.iload_n 1, 1) := by decide +kernel
theorem dX5_needTicks_6 : decode cX5_needTicks 6 = .ok (.bipush 100, 2) := by decide +kernel
theorem dX5_needTicks_8 : decode cX5_needTicks 8 = .ok (.if_icmp .le 14, 3) := by decide +kernel
theorem dX5_needTicks_11 : decode cX5_needTicks 11 = .ok (.new 69, 3) := by decide +kernel
theorem dX5_needTicks_14 : decode cX5_needTicks 14 = .ok (.dup, 1) := by decide +kernel
theorem dX5_needTicks_15 : decode cX5_needTicks 15 = .ok (.ldc_w 321, 3) := by decide +kernel
theorem dX5_needTicks_18 : decode cX5_needTicks 18 = .ok (.invokespecial 73, 3) := by decide +kernel
theorem dX5_needTicks_21 : decode cX5_needTicks 21 = .ok (.athrow, 1) := by decide +kernel
theorem dX5_needTicks_22 : decode cX5_needTicks 22 = .ok (.return_, 1) := by decide +kernel
theorem dX5_needUnlocked_0 : decode cX5_needUnlocked 0 = .ok (.aload_n 0, 1) := by decide +kernel
theorem dX5_needUnlocked_1 : decode cX5_needUnlocked 1 = .ok (.getfield 10, 3) := by decide +kernel
theorem dX5_needUnlocked_4 : decode cX5_needUnlocked 4 = .ok (.getfield 74, 3) := by decide +kernel
theorem dX5_needUnlocked_7 : decode cX5_needUnlocked 7 = .ok (.iload_n 1, 1) := by decide +kernel
theorem dX5_needUnlocked_8 : decode cX5_needUnlocked 8 = .ok (.iload_n 2, 1) := by decide +kernel
theorem dX5_needUnlocked_9 : decode cX5_needUnlocked 9 = .ok (.invokevirtual 323, 3) := by decide +kernel
theorem dX5_needUnlocked_12 : decode cX5_needUnlocked 12 = .ok (.ifCond .eq 14, 3) := by decide +kernel
theorem dX5_needUnlocked_15 : decode cX5_needUnlocked 15 = .ok (.new 69, 3) := by decide +kernel
theorem dX5_needUnlocked_18 : decode cX5_needUnlocked 18 = .ok (.dup, 1) := by decide +kernel
theorem dX5_needUnlocked_19 : decode cX5_needUnlocked 19 = .ok (.ldc_w 326, 3) := by decide +kernel
theorem dX5_needUnlocked_22 : decode cX5_needUnlocked 22 = .ok (.invokespecial 73, 3) := by decide +kernel
theorem dX5_needUnlocked_25 : decode cX5_needUnlocked 25 = .ok (.athrow, 1) := by decide +kernel
theorem dX5_needUnlocked_26 : decode cX5_needUnlocked 26 = .ok (.return_, 1) := by decide +kernel
theorem dX5_needCopy_0 : decode cX5_needCopy 0 = .ok (.aload_n 0, 1) := by decide +kernel
theorem dX5_needCopy_1 : decode cX5_needCopy 1 = .ok (.getfield 10, 3) := by decide +kernel
theorem dX5_needCopy_4 : decode cX5_needCopy 4 = .ok (.getfield 74, 3) := by decide +kernel
theorem dX5_needCopy_7 : decode cX5_needCopy 7 = .ok (.iload_n 1, 1) := by decide +kernel
theorem dX5_needCopy_8 : decode cX5_needCopy 8 = .ok (.iload_n 2, 1) := by decide +kernel
theorem dX5_needCopy_9 : decode cX5_needCopy 9 = .ok (.iload_n 3, 1) := by decide +kernel
theorem dX5_needCopy_10 : decode cX5_needCopy 10 = .ok (.invokevirtual 186, 3) := by decide +kernel
theorem dX5_needCopy_13 : decode cX5_needCopy 13 = .ok (.ifCond .eq 14, 3) := by decide +kernel
theorem dX5_needCopy_16 : decode cX5_needCopy 16 = .ok (.new 69, 3) := by decide +kernel
theorem dX5_needCopy_19 : decode cX5_needCopy 19 = .ok (.dup, 1) := by decide +kernel
theorem dX5_needCopy_20 : decode cX5_needCopy 20 = .ok (.ldc_w 328, 3) := by decide +kernel
theorem dX5_needCopy_23 : decode cX5_needCopy 23 = .ok (.invokespecial 73, 3) := by decide +kernel
theorem dX5_needCopy_26 : decode cX5_needCopy 26 = .ok (.athrow, 1) := by decide +kernel
theorem dX5_needCopy_27 : decode cX5_needCopy 27 = .ok (.return_, 1) := by decide +kernel
theorem dX5_needSlot_0 : decode cX5_needSlot 0 = .ok (.iload_n 1, 1) := by decide +kernel
theorem dX5_needSlot_1 : decode cX5_needSlot 1 = .ok (.ifCond .lt 8, 3) := by decide +kernel
theorem dX5_needSlot_4 : decode cX5_needSlot 4 = .ok (.iload_n 1, 1) := by decide +kernel
theorem dX5_needSlot_5 : decode cX5_needSlot 5 = .ok (.iconst 2, 1) := by decide +kernel
theorem dX5_needSlot_6 : decode cX5_needSlot 6 = .ok (.if_icmp .lt 14, 3) := by decide +kernel
theorem dX5_needSlot_9 : decode cX5_needSlot 9 = .ok (.new 59, 3) := by decide +kernel
theorem dX5_needSlot_12 : decode cX5_needSlot 12 = .ok (.dup, 1) := by decide +kernel
theorem dX5_needSlot_13 : decode cX5_needSlot 13 = .ok (.ldc_w 330, 3) := by decide +kernel
theorem dX5_needSlot_16 : decode cX5_needSlot 16 = .ok (.invokespecial 63, 3) := by decide +kernel
theorem dX5_needSlot_19 : decode cX5_needSlot 19 = .ok (.athrow, 1) := by decide +kernel
theorem dX5_needSlot_20 : decode cX5_needSlot 20 = .ok (.return_, 1) := by decide +kernel
theorem dX5_startTrial_0 : decode cX5_startTrial 0 = .ok (.aload_n 0, 1) := by decide +kernel
theorem dX5_startTrial_1 : decode cX5_startTrial 1 = .ok (.getfield 16, 3) := by decide +kernel
theorem dX5_startTrial_4 : decode cX5_startTrial 4 = .ok (.getfield 74, 3) := by decide +kernel
theorem dX5_startTrial_7 : decode cX5_startTrial 7 = .ok (.aload_n 0, 1) := by decide +kernel
theorem dX5_startTrial_8 : decode cX5_startTrial 8 = .ok (.getfield 10, 3) := by decide +kernel
theorem dX5_startTrial_11 : decode cX5_startTrial 11 = .ok (.getfield 74, 3) := by decide +kernel
theorem dX5_startTrial_14 : decode cX5_startTrial 14 = .ok (.invokevirtual 81, 3) := by decide +kernel
theorem dX5_startTrial_17 : decode cX5_startTrial 17 = .ok (.return_, 1) := by decide +kernel
theorem dX5_tryCopy_0 : decode cX5_tryCopy 0 = .ok (.aload_n 0, 1) := by decide +kernel
theorem dX5_tryCopy_1 : decode cX5_tryCopy 1 = .ok (.iload_n 1, 1) := by decide +kernel
theorem dX5_tryCopy_2 : decode cX5_tryCopy 2 = .ok (.iload_n 2, 1) := by decide +kernel
theorem dX5_tryCopy_3 : decode cX5_tryCopy 3 = .ok (.iload_n 3, 1) := by decide +kernel
theorem dX5_tryCopy_4 : decode cX5_tryCopy 4 = .ok (.invokevirtual 255, 3) := by decide +kernel
theorem dX5_tryCopy_7 : decode cX5_tryCopy 7 = .ok (.aload_n 0, 1) := by decide +kernel
theorem dX5_tryCopy_8 : decode cX5_tryCopy 8 = .ok (.invokevirtual 200, 3) := by decide +kernel
theorem dX5_tryCopy_11 : decode cX5_tryCopy 11 = .ok (.aload_n 0, 1) := by decide +kernel
theorem dX5_tryCopy_12 : decode cX5_tryCopy 12 = .ok (.getfield 16, 3) := by decide +kernel
theorem dX5_tryCopy_15 : decode cX5_tryCopy 15 = .ok (.iload_n 1, 1) := by decide +kernel
theorem dX5_tryCopy_16 : decode cX5_tryCopy 16 = .ok (.iload_n 2, 1) := by decide +kernel
theorem dX5_tryCopy_17 : decode cX5_tryCopy 17 = .ok (.iload_n 3, 1) := by decide +kernel
theorem dX5_tryCopy_18 : decode cX5_tryCopy 18 = .ok (.invokevirtual 261, 3) := by decide +kernel
theorem dX5_tryCopy_21 : decode cX5_tryCopy 21 = .ok (.pop, 1) := by decide +kernel
theorem dX5_tryCopy_22 : decode cX5_tryCopy 22 = .ok (.return_, 1) := by decide +kernel
theorem dX5_addedTo_0 : decode cX5_addedTo 0 = .ok (.aload_n 0, 1) := by decide +kernel
theorem dX5_addedTo_1 : decode cX5_addedTo 1 = .ok (.getfield 16, 3) := by decide +kernel
theorem dX5_addedTo_4 : decode cX5_addedTo 4 = .ok (.getfield 74, 3) := by decide +kernel
theorem dX5_addedTo_7 : decode cX5_addedTo 7 = .ok (.getfield 226, 3) := by decide +kernel
theorem dX5_addedTo_10 : decode cX5_addedTo 10 = .ok (.iload_n 1, 1) := by decide +kernel
theorem dX5_addedTo_11 : decode cX5_addedTo 11 = .ok (.iaload, 1) := by decide +kernel
theorem dX5_addedTo_12 : decode cX5_addedTo 12 = .ok (.aload_n 0, 1) := by decide +kernel
theorem dX5_addedTo_13 : decode cX5_addedTo 13 = .ok (.getfield 10, 3) := by decide +kernel
theorem dX5_addedTo_16 : decode cX5_addedTo 16 = .ok (.getfield 74, 3) := by decide +kernel
theorem dX5_addedTo_19 : decode cX5_addedTo 19 = .ok (.getfield 226, 3) := by decide +kernel
theorem dX5_addedTo_22 : decode cX5_addedTo 22 = .ok (.iload_n 1, 1) := by decide +kernel
theorem dX5_addedTo_23 : decode cX5_addedTo 23 = .ok (.iaload, 1) := by decide +kernel
theorem dX5_addedTo_24 : decode cX5_addedTo 24 = .ok (.isub, 1) := by decide +kernel
theorem dX5_addedTo_25 : decode cX5_addedTo 25 = .ok (.ireturn, 1) := by decide +kernel
theorem dX5_writeDebt_0 : decode cX5_writeDebt 0 = .ok (.aload_n 0, 1) := by decide +kernel
theorem dX5_writeDebt_1 : decode cX5_writeDebt 1 = .ok (.getfield 42, 3) := by decide +kernel
theorem dX5_writeDebt_4 : decode cX5_writeDebt 4 = .ok (.getfield 241, 3) := by decide +kernel
theorem dX5_writeDebt_7 : decode cX5_writeDebt 7 = .ok (.ifCond .le 12, 3) := by decide +kernel
theorem dX5_writeDebt_10 : decode cX5_writeDebt 10 = .ok (.aload_n 0, 1) := by decide +kernel
theorem dX5_writeDebt_11 : decode cX5_writeDebt 11 = .ok (.getfield 42, 3) := by decide +kernel
theorem dX5_writeDebt_14 : decode cX5_writeDebt 14 = .ok (.bipush 44, 2) := by decide +kernel
theorem dX5_writeDebt_16 : decode cX5_writeDebt 16 = .ok (.invokevirtual 244, 3) := by decide +kernel
theorem dX5_writeDebt_19 : decode cX5_writeDebt 19 = .ok (.aload_n 0, 1) := by decide +kernel
theorem dX5_writeDebt_20 : decode cX5_writeDebt 20 = .ok (.getfield 42, 3) := by decide +kernel
theorem dX5_writeDebt_23 : decode cX5_writeDebt 23 = .ok (.iload_n 1, 1) := by decide +kernel
theorem dX5_writeDebt_24 : decode cX5_writeDebt 24 = .ok (.invokevirtual 247, 3) := by decide +kernel
theorem dX5_writeDebt_27 : decode cX5_writeDebt 27 = .ok (.aload_n 0, 1) := by decide +kernel
theorem dX5_writeDebt_28 : decode cX5_writeDebt 28 = .ok (.getfield 42, 3) := by decide +kernel
theorem dX5_writeDebt_31 : decode cX5_writeDebt 31 = .ok (.bipush 120, 2) := by decide +kernel
theorem dX5_writeDebt_33 : decode cX5_writeDebt 33 = .ok (.invokevirtual 244, 3) := by decide +kernel
theorem dX5_writeDebt_36 : decode cX5_writeDebt 36 = .ok (.aload_n 0, 1) := by decide +kernel
theorem dX5_writeDebt_37 : decode cX5_writeDebt 37 = .ok (.getfield 42, 3) := by decide +kernel
theorem dX5_writeDebt_40 : decode cX5_writeDebt 40 = .ok (.aload_n 0, 1) := by decide +kernel
theorem dX5_writeDebt_41 : decode cX5_writeDebt 41 = .ok (.getfield 10, 3) := by decide +kernel
theorem dX5_writeDebt_44 : decode cX5_writeDebt 44 = .ok (.getfield 74, 3) := by decide +kernel
theorem dX5_writeDebt_47 : decode cX5_writeDebt 47 = .ok (.iload_n 1, 1) := by decide +kernel
theorem dX5_writeDebt_48 : decode cX5_writeDebt 48 = .ok (.invokevirtual 162, 3) := by decide +kernel
theorem dX5_writeDebt_51 : decode cX5_writeDebt 51 = .ok (.invokevirtual 247, 3) := by decide +kernel
theorem dX5_writeDebt_54 : decode cX5_writeDebt 54 = .ok (.aload_n 0, 1) := by decide +kernel
theorem dX5_writeDebt_55 : decode cX5_writeDebt 55 = .ok (.getfield 42, 3) := by decide +kernel
theorem dX5_writeDebt_58 : decode cX5_writeDebt 58 = .ok (.bipush 60, 2) := by decide +kernel
theorem dX5_writeDebt_60 : decode cX5_writeDebt 60 = .ok (.invokevirtual 244, 3) := by decide +kernel
theorem dX5_writeDebt_63 : decode cX5_writeDebt 63 = .ok (.aload_n 0, 1) := by decide +kernel
theorem dX5_writeDebt_64 : decode cX5_writeDebt 64 = .ok (.getfield 42, 3) := by decide +kernel
theorem dX5_writeDebt_67 : decode cX5_writeDebt 67 = .ok (.aload_n 0, 1) := by decide +kernel
theorem dX5_writeDebt_68 : decode cX5_writeDebt 68 = .ok (.getfield 10, 3) := by decide +kernel
theorem dX5_writeDebt_71 : decode cX5_writeDebt 71 = .ok (.getfield 74, 3) := by decide +kernel
theorem dX5_writeDebt_74 : decode cX5_writeDebt 74 = .ok (.getfield 121, 3) := by decide +kernel
theorem dX5_writeDebt_77 : decode cX5_writeDebt 77 = .ok (.iload_n 1, 1) := by decide +kernel
theorem dX5_writeDebt_78 : decode cX5_writeDebt 78 = .ok (.iaload, 1) := by decide +kernel
theorem dX5_writeDebt_79 : decode cX5_writeDebt 79 = .ok (.invokevirtual 247, 3) := by decide +kernel
theorem dX5_writeDebt_82 : decode cX5_writeDebt 82 = .ok (.return_, 1) := by decide +kernel
theorem dX5_leastSetting_0 : decode cX5_leastSetting 0 = .ok (.iload_n 0, 1) := by decide +kernel
theorem dX5_leastSetting_1 : decode cX5_leastSetting 1 = .ok (.ifCond .ne 7, 3) := by decide +kernel
theorem dX5_leastSetting_4 : decode cX5_leastSetting 4 = .ok (.iconst 1, 1) := by decide +kernel
theorem dX5_leastSetting_5 : decode cX5_leastSetting 5 = .ok (.goto 4, 3) := by decide +kernel
theorem dX5_leastSetting_8 : decode cX5_leastSetting 8 = .ok (.iconst 0, 1) := by decide +kernel
theorem dX5_leastSetting_9 : decode cX5_leastSetting 9 = .ok (.ireturn, 1) := by decide +kernel
theorem dX5_greatestSetting_0 : decode cX5_greatestSetting 0 = .ok (.iload_n 0, 1) := by decide +kernel
theorem dX5_greatestSetting_1 : decode cX5_greatestSetting 1 = .ok (.tableswitch 35 0 2 #[27, 30, 33], 27) := by decide +kernel
theorem dX5_greatestSetting_28 : decode cX5_greatestSetting 28 = .ok (.bipush 20, 2) := by decide +kernel
theorem dX5_greatestSetting_30 : decode cX5_greatestSetting 30 = .ok (.ireturn, 1) := by decide +kernel
theorem dX5_greatestSetting_31 : decode cX5_greatestSetting 31 = .ok (.bipush 96, 2) := by decide +kernel
theorem dX5_greatestSetting_33 : decode cX5_greatestSetting 33 = .ok (.ireturn, 1) := by decide +kernel
theorem dX5_greatestSetting_34 : decode cX5_greatestSetting 34 = .ok (.iconst 3, 1) := by decide +kernel
theorem dX5_greatestSetting_35 : decode cX5_greatestSetting 35 = .ok (.ireturn, 1) := by decide +kernel
theorem dX5_greatestSetting_36 : decode cX5_greatestSetting 36 = .ok (.iconst 1, 1) := by decide +kernel
theorem dX5_greatestSetting_37 : decode cX5_greatestSetting 37 = .ok (.ireturn, 1) := by decide +kernel
theorem dJ9_max_7cf53_0 : decode cJ9_max_7cf53 0 = .ok (.iload_n 0, 1) := by decide +kernel
theorem dJ9_max_7cf53_1 : decode cJ9_max_7cf53 1 = .ok (.iload_n 1, 1) := by decide +kernel
theorem dJ9_max_7cf53_2 : decode cJ9_max_7cf53 2 = .ok (.if_icmp .lt 7, 3) := by decide +kernel
theorem dJ9_max_7cf53_5 : decode cJ9_max_7cf53 5 = .ok (.iload_n 0, 1) := by decide +kernel
theorem dJ9_max_7cf53_6 : decode cJ9_max_7cf53 6 = .ok (.goto 4, 3) := by decide +kernel
theorem dJ9_max_7cf53_9 : decode cJ9_max_7cf53 9 = .ok (.iload_n 1, 1) := by decide +kernel
theorem dJ9_max_7cf53_10 : decode cJ9_max_7cf53 10 = .ok (.ireturn, 1) := by decide +kernel
theorem dJ9_min_7cf53_0 : decode cJ9_min_7cf53 0 = .ok (.iload_n 0, 1) := by decide +kernel
theorem dJ9_min_7cf53_1 : decode cJ9_min_7cf53 1 = .ok (.iload_n 1, 1) := by decide +kernel
theorem dJ9_min_7cf53_2 : decode cJ9_min_7cf53 2 = .ok (.if_icmp .gt 7, 3) := by decide +kernel
theorem dJ9_min_7cf53_5 : decode cJ9_min_7cf53 5 = .ok (.iload_n 0, 1) := by decide +kernel
theorem dJ9_min_7cf53_6 : decode cJ9_min_7cf53 6 = .ok (.goto 4, 3) := by decide +kernel
theorem dJ9_min_7cf53_9 : decode cJ9_min_7cf53 9 = .ok (.iload_n 1, 1) := by decide +kernel
theorem dJ9_min_7cf53_10 : decode cJ9_min_7cf53 10 = .ok (.ireturn, 1) := by decide +kernel
theorem dJ0_length_8abf5_0 : decode cJ0_length_8abf5 0 = .ok (.aload_n 0, 1) := by decide +kernel
theorem dJ0_length_8abf5_1 : decode cJ0_length_8abf5 1 = .ok (.getfield 9, 3) := by decide +kernel
theorem dJ0_length_8abf5_4 : decode cJ0_length_8abf5 4 = .ok (.arraylength, 1) := by decide +kernel
theorem dJ0_length_8abf5_5 : decode cJ0_length_8abf5 5 = .ok (.aload_n 0, 1) := by decide +kernel
theorem dJ0_length_8abf5_6 : decode cJ0_length_8abf5 6 = .ok (.invokevirtual 335, 3) := by decide +kernel
theorem dJ0_length_8abf5_9 : decode cJ0_length_8abf5 9 = .ok (.ishr, 1) := by decide +kernel
theorem dJ0_length_8abf5_10 : decode cJ0_length_8abf5 10 = .ok (.ireturn, 1) := by decide +kernel
theorem dJ0_charAt_5068e_0 : decode cJ0_charAt_5068e 0 = .ok (.aload_n 0, 1) := by decide +kernel
theorem dJ0_charAt_5068e_1 : decode cJ0_charAt_5068e 1 = .ok (.invokevirtual 492, 3) := by decide +kernel
theorem dJ0_charAt_5068e_4 : decode cJ0_charAt_5068e 4 = .ok (.ifCond .eq 12, 3) := by decide +kernel
theorem dJ0_charAt_5068e_7 : decode cJ0_charAt_5068e 7 = .ok (.aload_n 0, 1) := by decide +kernel
theorem dJ0_charAt_5068e_8 : decode cJ0_charAt_5068e 8 = .ok (.getfield 9, 3) := by decide +kernel
theorem dJ0_charAt_5068e_11 : decode cJ0_charAt_5068e 11 = .ok (.iload_n 1, 1) := by decide +kernel
theorem dJ0_charAt_5068e_12 : decode cJ0_charAt_5068e 12 = .ok (.invokestatic 495, 3) := by decide +kernel
theorem dJ0_charAt_5068e_15 : decode cJ0_charAt_5068e 15 = .ok (.ireturn, 1) := by decide +kernel
theorem dJ0_charAt_5068e_16 : decode cJ0_charAt_5068e 16 = .ok (.aload_n 0, 1) := by decide +kernel
theorem dJ0_charAt_5068e_17 : decode cJ0_charAt_5068e 17 = .ok (.getfield 9, 3) := by decide +kernel
theorem dJ0_charAt_5068e_20 : decode cJ0_charAt_5068e 20 = .ok (.iload_n 1, 1) := by decide +kernel
theorem dJ0_charAt_5068e_21 : decode cJ0_charAt_5068e 21 = .ok (.invokestatic 498, 3) := by decide +kernel
theorem dJ0_charAt_5068e_24 : decode cJ0_charAt_5068e 24 = .ok (.ireturn, 1) := by decide +kernel
theorem dJ0_coder_7d493_0 : decode cJ0_coder_7d493 0 = .ok (.getstatic 38, 3) := by decide +kernel
theorem dJ0_coder_7d493_3 : decode cJ0_coder_7d493 3 = .ok (.ifCond .eq 10, 3) := by decide +kernel
theorem dJ0_coder_7d493_6 : decode cJ0_coder_7d493 6 = .ok (.aload_n 0, 1) := by decide +kernel
theorem dJ0_coder_7d493_7 : decode cJ0_coder_7d493 7 = .ok (.getfield 15, 3) := by decide +kernel
theorem dJ0_coder_7d493_10 : decode cJ0_coder_7d493 10 = .ok (.goto 4, 3) := by decide +kernel
theorem dJ0_coder_7d493_13 : decode cJ0_coder_7d493 13 = .ok (.iconst 1, 1) := by decide +kernel
theorem dJ0_coder_7d493_14 : decode cJ0_coder_7d493 14 = .ok (.ireturn, 1) := by decide +kernel
theorem dJ0_isLatin1_aae02_0 : decode cJ0_isLatin1_aae02 0 = .ok (.getstatic 38, 3) := by decide +kernel
theorem dJ0_isLatin1_aae02_3 : decode cJ0_isLatin1_aae02 3 = .ok (.ifCond .eq 14, 3) := by decide +kernel
theorem dJ0_isLatin1_aae02_6 : decode cJ0_isLatin1_aae02 6 = .ok (.aload_n 0, 1) := by decide +kernel
theorem dJ0_isLatin1_aae02_7 : decode cJ0_isLatin1_aae02 7 = .ok (.getfield 15, 3) := by decide +kernel
theorem dJ0_isLatin1_aae02_10 : decode cJ0_isLatin1_aae02 10 = .ok (.ifCond .ne 7, 3) := by decide +kernel
theorem dJ0_isLatin1_aae02_13 : decode cJ0_isLatin1_aae02 13 = .ok (.iconst 1, 1) := by decide +kernel
theorem dJ0_isLatin1_aae02_14 : decode cJ0_isLatin1_aae02 14 = .ok (.goto 4, 3) := by decide +kernel
theorem dJ0_isLatin1_aae02_17 : decode cJ0_isLatin1_aae02 17 = .ok (.iconst 0, 1) := by decide +kernel
theorem dJ0_isLatin1_aae02_18 : decode cJ0_isLatin1_aae02 18 = .ok (.ireturn, 1) := by decide +kernel
theorem dJ0_checkIndex_df160_0 : decode cJ0_checkIndex_df160 0 = .ok (.iload_n 0, 1) := by decide +kernel
theorem dJ0_checkIndex_df160_1 : decode cJ0_checkIndex_df160 1 = .ok (.iload_n 1, 1) := by decide +kernel
theorem dJ0_checkIndex_df160_2 : decode cJ0_checkIndex_df160 2 = .ok (.getstatic 1053, 3) := by decide +kernel
theorem dJ0_checkIndex_df160_5 : decode cJ0_checkIndex_df160 5 = .ok (.invokestatic 1059, 3) := by decide +kernel
theorem dJ0_checkIndex_df160_8 : decode cJ0_checkIndex_df160 8 = .ok (.pop, 1) := by decide +kernel
theorem dJ0_checkIndex_df160_9 : decode cJ0_checkIndex_df160 9 = .ok (.return_, 1) := by decide +kernel
theorem dJ1_charAt_3b067_0 : decode cJ1_charAt_3b067 0 = .ok (.iload_n 1, 1) := by decide +kernel
theorem dJ1_charAt_3b067_1 : decode cJ1_charAt_3b067 1 = .ok (.aload_n 0, 1) := by decide +kernel
theorem dJ1_charAt_3b067_2 : decode cJ1_charAt_3b067 2 = .ok (.arraylength, 1) := by decide +kernel
theorem dJ1_charAt_3b067_3 : decode cJ1_charAt_3b067 3 = .ok (.invokestatic 9, 3) := by decide +kernel
theorem dJ1_charAt_3b067_6 : decode cJ1_charAt_3b067 6 = .ok (.aload_n 0, 1) := by decide +kernel
theorem dJ1_charAt_3b067_7 : decode cJ1_charAt_3b067 7 = .ok (.iload_n 1, 1) := by decide +kernel
theorem dJ1_charAt_3b067_8 : decode cJ1_charAt_3b067 8 = .ok (.baload, 1) := by decide +kernel
theorem dJ1_charAt_3b067_9 : decode cJ1_charAt_3b067 9 = .ok (.sipush 255, 3) := by decide +kernel
theorem dJ1_charAt_3b067_12 : decode cJ1_charAt_3b067 12 = .ok (.iand, 1) := by decide +kernel
theorem dJ1_charAt_3b067_13 : decode cJ1_charAt_3b067 13 = .ok (.i2c, 1) := by decide +kernel
theorem dJ1_charAt_3b067_14 : decode cJ1_charAt_3b067 14 = .ok (.ireturn, 1) := by decide +kernel
theorem dJ2_getChar_3b067_0 : decode cJ2_getChar_3b067 0 = .ok (.getstatic 44, 3) := by decide +kernel
theorem dJ2_getChar_3b067_3 : decode cJ2_getChar_3b067 3 = .ok (.ifCond .ne 25, 3) := by decide +kernel
theorem dJ2_getChar_3b067_6 : decode cJ2_getChar_3b067 6 = .ok (.iload_n 1, 1) := by decide +kernel
theorem dJ2_getChar_3b067_7 : decode cJ2_getChar_3b067 7 = .ok (.ifCond .lt 11, 3) := by decide +kernel
theorem dJ2_getChar_3b067_10 : decode cJ2_getChar_3b067 10 = .ok (.iload_n 1, 1) := by decide +kernel
theorem dJ2_getChar_3b067_11 : decode cJ2_getChar_3b067 11 = .ok (.aload_n 0, 1) := by decide +kernel
theorem dJ2_getChar_3b067_12 : decode cJ2_getChar_3b067 12 = .ok (.invokestatic 48, 3) := by decide +kernel
theorem dJ2_getChar_3b067_15 : decode cJ2_getChar_3b067 15 = .ok (.if_icmp .lt 13, 3) := by decide +kernel
theorem dJ2_getChar_3b067_18 : decode cJ2_getChar_3b067 18 = .ok (.new 52, 3) := by decide +kernel
theorem dJ2_getChar_3b067_21 : decode cJ2_getChar_3b067 21 = .ok (.dup, 1) := by decide +kernel
theorem dJ2_getChar_3b067_22 : decode cJ2_getChar_3b067 22 = .ok (.ldc 54, 2) := by decide +kernel
theorem dJ2_getChar_3b067_24 : decode cJ2_getChar_3b067 24 = .ok (.invokespecial 56, 3) := by decide +kernel
theorem dJ2_getChar_3b067_27 : decode cJ2_getChar_3b067 27 = .ok (.athrow, 1) := by decide +kernel
theorem dJ2_getChar_3b067_28 : decode cJ2_getChar_3b067 28 = .ok (.iload_n 1, 1) := by decide +kernel
theorem dJ2_getChar_3b067_29 : decode cJ2_getChar_3b067 29 = .ok (.iconst 1, 1) := by decide +kernel
theorem dJ2_getChar_3b067_30 : decode cJ2_getChar_3b067 30 = .ok (.ishl, 1) := by decide +kernel
theorem dJ2_getChar_3b067_31 : decode cJ2_getChar_3b067 31 = .ok (.istore_n 1, 1) := by decide +kernel
theorem dJ2_getChar_3b067_32 : decode cJ2_getChar_3b067 32 = .ok (.aload_n 0, 1) := by decide +kernel
theorem dJ2_getChar_3b067_33 : decode cJ2_getChar_3b067 33 = .ok (.iload_n 1, 1) := by decide +kernel
theorem dJ2_getChar_3b067_34 : decode cJ2_getChar_3b067 34 = .ok (.iinc 1 1, 3) := by decide +kernel
theorem dJ2_getChar_3b067_37 : decode cJ2_getChar_3b067 37 = .ok (.baload, 1) := by decide +kernel
theorem dJ2_getChar_3b067_38 : decode cJ2_getChar_3b067 38 = .ok (.sipush 255, 3) := by decide +kernel
theorem dJ2_getChar_3b067_41 : decode cJ2_getChar_3b067 41 = .ok (.iand, 1) := by decide +kernel
theorem dJ2_getChar_3b067_42 : decode cJ2_getChar_3b067 42 = .ok (.getstatic 59, 3) := by decide +kernel
theorem dJ2_getChar_3b067_45 : decode cJ2_getChar_3b067 45 = .ok (.ishl, 1) := by decide +kernel
theorem dJ2_getChar_3b067_46 : decode cJ2_getChar_3b067 46 = .ok (.aload_n 0, 1) := by decide +kernel
theorem dJ2_getChar_3b067_47 : decode cJ2_getChar_3b067 47 = .ok (.iload_n 1, 1) := by decide +kernel
theorem dJ2_getChar_3b067_48 : decode cJ2_getChar_3b067 48 = .ok (.baload, 1) := by decide +kernel
theorem dJ2_getChar_3b067_49 : decode cJ2_getChar_3b067 49 = .ok (.sipush 255, 3) := by decide +kernel
theorem dJ2_getChar_3b067_52 : decode cJ2_getChar_3b067 52 = .ok (.iand, 1) := by decide +kernel
theorem dJ2_getChar_3b067_53 : decode cJ2_getChar_3b067 53 = .ok (.getstatic 63, 3) := by decide +kernel
theorem dJ2_getChar_3b067_56 : decode cJ2_getChar_3b067 56 = .ok (.ishl, 1) := by decide +kernel
theorem dJ2_getChar_3b067_57 : decode cJ2_getChar_3b067 57 = .ok (.ior, 1) := by decide +kernel
theorem dJ2_getChar_3b067_58 : decode cJ2_getChar_3b067 58 = .ok (.i2c, 1) := by decide +kernel
theorem dJ2_getChar_3b067_59 : decode cJ2_getChar_3b067 59 = .ok (.ireturn, 1) := by decide +kernel
theorem dJ2_length_9d52b_0 : decode cJ2_length_9d52b 0 = .ok (.aload_n 0, 1) := by decide +kernel
theorem dJ2_length_9d52b_1 : decode cJ2_length_9d52b 1 = .ok (.arraylength, 1) := by decide +kernel
theorem dJ2_length_9d52b_2 : decode cJ2_length_9d52b 2 = .ok (.iconst 1, 1) := by decide +kernel
theorem dJ2_length_9d52b_3 : decode cJ2_length_9d52b 3 = .ok (.ishr, 1) := by decide +kernel
theorem dJ2_length_9d52b_4 : decode cJ2_length_9d52b 4 = .ok (.ireturn, 1) := by decide +kernel
theorem dJ2_charAt_3b067_0 : decode cJ2_charAt_3b067 0 = .ok (.iload_n 1, 1) := by decide +kernel
theorem dJ2_charAt_3b067_1 : decode cJ2_charAt_3b067 1 = .ok (.aload_n 0, 1) := by decide +kernel
theorem dJ2_charAt_3b067_2 : decode cJ2_charAt_3b067 2 = .ok (.invokestatic 67, 3) := by decide +kernel
theorem dJ2_charAt_3b067_5 : decode cJ2_charAt_3b067 5 = .ok (.aload_n 0, 1) := by decide +kernel
theorem dJ2_charAt_3b067_6 : decode cJ2_charAt_3b067 6 = .ok (.iload_n 1, 1) := by decide +kernel
theorem dJ2_charAt_3b067_7 : decode cJ2_charAt_3b067 7 = .ok (.invokestatic 71, 3) := by decide +kernel
theorem dJ2_charAt_3b067_10 : decode cJ2_charAt_3b067 10 = .ok (.ireturn, 1) := by decide +kernel
theorem dJ2_checkIndex_2214a_0 : decode cJ2_checkIndex_2214a 0 = .ok (.iload_n 0, 1) := by decide +kernel
theorem dJ2_checkIndex_2214a_1 : decode cJ2_checkIndex_2214a 1 = .ok (.aload_n 1, 1) := by decide +kernel
theorem dJ2_checkIndex_2214a_2 : decode cJ2_checkIndex_2214a 2 = .ok (.invokestatic 48, 3) := by decide +kernel
theorem dJ2_checkIndex_2214a_5 : decode cJ2_checkIndex_2214a 5 = .ok (.invokestatic 414, 3) := by decide +kernel
theorem dJ2_checkIndex_2214a_8 : decode cJ2_checkIndex_2214a 8 = .ok (.return_, 1) := by decide +kernel
theorem dJ7_fill_53178_0 : decode cJ7_fill_53178 0 = .ok (.iconst 0, 1) := by decide +kernel
theorem dJ7_fill_53178_1 : decode cJ7_fill_53178 1 = .ok (.istore_n 2, 1) := by decide +kernel
theorem dJ7_fill_53178_2 : decode cJ7_fill_53178 2 = .ok (.aload_n 0, 1) := by decide +kernel
theorem dJ7_fill_53178_3 : decode cJ7_fill_53178 3 = .ok (.arraylength, 1) := by decide +kernel
theorem dJ7_fill_53178_4 : decode cJ7_fill_53178 4 = .ok (.istore_n 3, 1) := by decide +kernel
theorem dJ7_fill_53178_5 : decode cJ7_fill_53178 5 = .ok (.iload_n 2, 1) := by decide +kernel
theorem dJ7_fill_53178_6 : decode cJ7_fill_53178 6 = .ok (.iload_n 3, 1) := by decide +kernel
theorem dJ7_fill_53178_7 : decode cJ7_fill_53178 7 = .ok (.if_icmp .ge 13, 3) := by decide +kernel
theorem dJ7_fill_53178_10 : decode cJ7_fill_53178 10 = .ok (.aload_n 0, 1) := by decide +kernel
theorem dJ7_fill_53178_11 : decode cJ7_fill_53178 11 = .ok (.iload_n 2, 1) := by decide +kernel
theorem dJ7_fill_53178_12 : decode cJ7_fill_53178 12 = .ok (.iload_n 1, 1) := by decide +kernel
theorem dJ7_fill_53178_13 : decode cJ7_fill_53178 13 = .ok (.iastore, 1) := by decide +kernel
theorem dJ7_fill_53178_14 : decode cJ7_fill_53178 14 = .ok (.iinc 2 1, 3) := by decide +kernel
theorem dJ7_fill_53178_17 : decode cJ7_fill_53178 17 = .ok (.goto (-12), 3) := by decide +kernel
theorem dJ7_fill_53178_20 : decode cJ7_fill_53178 20 = .ok (.return_, 1) := by decide +kernel
theorem dJ3_checkIndex_8e157_0 : decode cJ3_checkIndex_8e157 0 = .ok (.iload_n 0, 1) := by decide +kernel
theorem dJ3_checkIndex_8e157_1 : decode cJ3_checkIndex_8e157 1 = .ok (.ifCond .lt 8, 3) := by decide +kernel
theorem dJ3_checkIndex_8e157_4 : decode cJ3_checkIndex_8e157 4 = .ok (.iload_n 0, 1) := by decide +kernel
theorem dJ3_checkIndex_8e157_5 : decode cJ3_checkIndex_8e157 5 = .ok (.iload_n 1, 1) := by decide +kernel
theorem dJ3_checkIndex_8e157_6 : decode cJ3_checkIndex_8e157 6 = .ok (.if_icmp .lt 10, 3) := by decide +kernel
theorem dJ3_checkIndex_8e157_9 : decode cJ3_checkIndex_8e157 9 = .ok (.aload_n 2, 1) := by decide +kernel
theorem dJ3_checkIndex_8e157_10 : decode cJ3_checkIndex_8e157 10 = .ok (.iload_n 0, 1) := by decide +kernel
theorem dJ3_checkIndex_8e157_11 : decode cJ3_checkIndex_8e157 11 = .ok (.iload_n 1, 1) := by decide +kernel
theorem dJ3_checkIndex_8e157_12 : decode cJ3_checkIndex_8e157 12 = .ok (.invokestatic 95, 3) := by decide +kernel
theorem dJ3_checkIndex_8e157_15 : decode cJ3_checkIndex_8e157 15 = .ok (.athrow, 1) := by decide +kernel
theorem dJ3_checkIndex_8e157_16 : decode cJ3_checkIndex_8e157 16 = .ok (.iload_n 0, 1) := by decide +kernel
theorem dJ3_checkIndex_8e157_17 : decode cJ3_checkIndex_8e157 17 = .ok (.ireturn, 1) := by decide +kernel
