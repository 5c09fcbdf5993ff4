theorem dX7_in_0 : decode cX7_in 0 = .ok (.lload_n 0, 1) := by decide +kernel
theorem dX7_in_1 : decode cX7_in 1 = .ok (.lload_n 2, 1) := by decide +kernel
theorem dX7_in_2 : decode cX7_in 2 = .ok (.lcmp, 1) := by decide +kernel
theorem dX7_in_3 : decode cX7_in 3 = .ok (.ifCond .lt 14, 3) := by decide +kernel
theorem dX7_in_6 : decode cX7_in 6 = .ok (.lload_n 0, 1) := by decide +kernel
theorem dX7_in_7 : decode cX7_in 7 = .ok (.lload 4, 2) := by decide +kernel
theorem dX7_in_9 : decode cX7_in 9 = .ok (.lcmp, 1) := by decide +kernel
theorem dX7_in_10 : decode cX7_in 10 = .ok (.ifCond .gt 7, 3) := by decide +kernel
theorem dX7_in_13 : decode cX7_in 13 = .ok (.iconst 1, 1) := by decide +kernel
theorem dX7_in_14 : decode cX7_in 14 = .ok (.goto 4, 3) := by decide +kernel
theorem dX7_in_17 : decode cX7_in 17 = .ok (.iconst 0, 1) := by decide +kernel
theorem dX7_in_18 : decode cX7_in 18 = .ok (.ireturn, 1) := by decide +kernel
theorem dX7_init_0 : decode cX7_init 0 = .ok (.aload_n 0, 1) := by decide +kernel
theorem dX7_init_1 : decode cX7_init 1 = .ok (.invokespecial 1, 3) := by decide +kernel
theorem dX7_init_4 : decode cX7_init 4 = .ok (.aload_n 0, 1) := by decide +kernel
theorem dX7_init_5 : decode cX7_init 5 = .ok (.bipush 21, 2) := by decide +kernel
theorem dX7_init_7 : decode cX7_init 7 = .ok (.newarray .int, 2) := by decide +kernel
theorem dX7_init_9 : decode cX7_init 9 = .ok (.putfield 7, 3) := by decide +kernel
theorem dX7_init_12 : decode cX7_init 12 = .ok (.aload_n 0, 1) := by decide +kernel
theorem dX7_init_13 : decode cX7_init 13 = .ok (.sipush 156, 3) := by decide +kernel
theorem dX7_init_16 : decode cX7_init 16 = .ok (.newarray .int, 2) := by decide +kernel
theorem dX7_init_18 : decode cX7_init 18 = .ok (.putfield 13, 3) := by decide +kernel
theorem dX7_init_21 : decode cX7_init 21 = .ok (.aload_n 0, 1) := by decide +kernel
theorem dX7_init_22 : decode cX7_init 22 = .ok (.bipush 12, 2) := by decide +kernel
theorem dX7_init_24 : decode cX7_init 24 = .ok (.newarray .int, 2) := by decide +kernel
theorem dX7_init_26 : decode cX7_init 26 = .ok (.putfield 16, 3) := by decide +kernel
theorem dX7_init_29 : decode cX7_init 29 = .ok (.aload_n 0, 1) := by decide +kernel
theorem dX7_init_30 : decode cX7_init 30 = .ok (.bipush 70, 2) := by decide +kernel
theorem dX7_init_32 : decode cX7_init 32 = .ok (.newarray .int, 2) := by decide +kernel
theorem dX7_init_34 : decode cX7_init 34 = .ok (.putfield 19, 3) := by decide +kernel
theorem dX7_init_37 : decode cX7_init 37 = .ok (.aload_n 0, 1) := by decide +kernel
theorem dX7_init_38 : decode cX7_init 38 = .ok (.bipush 17, 2) := by decide +kernel
theorem dX7_init_40 : decode cX7_init 40 = .ok (.newarray .int, 2) := by decide +kernel
theorem dX7_init_42 : decode cX7_init 42 = .ok (.putfield 22, 3) := by decide +kernel
theorem dX7_init_45 : decode cX7_init 45 = .ok (.aload_n 0, 1) := by decide +kernel
theorem dX7_init_46 : decode cX7_init 46 = .ok (.sipush 168, 3) := by decide +kernel
theorem dX7_init_49 : decode cX7_init 49 = .ok (.newarray .int, 2) := by decide +kernel
theorem dX7_init_51 : decode cX7_init 51 = .ok (.putfield 25, 3) := by decide +kernel
theorem dX7_init_54 : decode cX7_init 54 = .ok (.aload_n 0, 1) := by decide +kernel
theorem dX7_init_55 : decode cX7_init 55 = .ok (.bipush 12, 2) := by decide +kernel
theorem dX7_init_57 : decode cX7_init 57 = .ok (.newarray .int, 2) := by decide +kernel
theorem dX7_init_59 : decode cX7_init 59 = .ok (.putfield 28, 3) := by decide +kernel
theorem dX7_init_62 : decode cX7_init 62 = .ok (.aload_n 0, 1) := by decide +kernel
theorem dX7_init_63 : decode cX7_init 63 = .ok (.bipush 32, 2) := by decide +kernel
theorem dX7_init_65 : decode cX7_init 65 = .ok (.newarray .int, 2) := by decide +kernel
theorem dX7_init_67 : decode cX7_init 67 = .ok (.putfield 31, 3) := by decide +kernel
theorem dX7_init_70 : decode cX7_init 70 = .ok (.aload_n 0, 1) := by decide +kernel
theorem dX7_init_71 : decode cX7_init 71 = .ok (.bipush 21, 2) := by decide +kernel
theorem dX7_init_73 : decode cX7_init 73 = .ok (.newarray .int, 2) := by decide +kernel
theorem dX7_init_75 : decode cX7_init 75 = .ok (.putfield 34, 3) := by decide +kernel
theorem dX7_init_78 : decode cX7_init 78 = .ok (.aload_n 0, 1) := by decide +kernel
theorem dX7_init_79 : decode cX7_init 79 = .ok (.sipush 168, 3) := by decide +kernel
theorem dX7_init_82 : decode cX7_init 82 = .ok (.newarray .int, 2) := by decide +kernel
theorem dX7_init_84 : decode cX7_init 84 = .ok (.putfield 37, 3) := by decide +kernel
theorem dX7_init_87 : decode cX7_init 87 = .ok (.aload_n 0, 1) := by decide +kernel
theorem dX7_init_88 : decode cX7_init 88 = .ok (.iconst (-1), 1) := by decide +kernel
theorem dX7_init_89 : decode cX7_init 89 = .ok (.putfield 40, 3) := by decide +kernel
theorem dX7_init_92 : decode cX7_init 92 = .ok (.aload_n 0, 1) := by decide +kernel
theorem dX7_init_93 : decode cX7_init 93 = .ok (.iconst 4, 1) := by decide +kernel
theorem dX7_init_94 : decode cX7_init 94 = .ok (.newarray .int, 2) := by decide +kernel
theorem dX7_init_96 : decode cX7_init 96 = .ok (.putfield 44, 3) := by decide +kernel
theorem dX7_init_99 : decode cX7_init 99 = .ok (.aload_n 0, 1) := by decide +kernel
theorem dX7_init_100 : decode cX7_init 100 = .ok (.iconst 4, 1) := by decide +kernel
theorem dX7_init_101 : decode cX7_init 101 = .ok (.newarray .int, 2) := by decide +kernel
theorem dX7_init_103 : decode cX7_init 103 = .ok (.putfield 47, 3) := by decide +kernel
theorem dX7_init_106 : decode cX7_init 106 = .ok (.aload_n 0, 1) := by decide +kernel
theorem dX7_init_107 : decode cX7_init 107 = .ok (.bipush 96, 2) := by decide +kernel
theorem dX7_init_109 : decode cX7_init 109 = .ok (.newarray .long, 2) := by decide +kernel
theorem dX7_init_111 : decode cX7_init 111 = .ok (.putfield 50, 3) := by decide +kernel
theorem dX7_init_114 : decode cX7_init 114 = .ok (.aload_n 0, 1) := by decide +kernel
theorem dX7_init_115 : decode cX7_init 115 = .ok (.bipush 24, 2) := by decide +kernel
theorem dX7_init_117 : decode cX7_init 117 = .ok (.newarray .long, 2) := by decide +kernel
theorem dX7_init_119 : decode cX7_init 119 = .ok (.putfield 54, 3) := by decide +kernel
theorem dX7_init_122 : decode cX7_init 122 = .ok (.aload_n 0, 1) := by decide +kernel
theorem dX7_init_123 : decode cX7_init 123 = .ok (.getfield 7, 3) := by decide +kernel
theorem dX7_init_126 : decode cX7_init 126 = .ok (.iconst 0, 1) := by decide +kernel
theorem dX7_init_127 : decode cX7_init 127 = .ok (.iconst 1, 1) := by decide +kernel
theorem dX7_init_128 : decode cX7_init 128 = .ok (.iastore, 1) := by decide +kernel
theorem dX7_init_129 : decode cX7_init 129 = .ok (.aload_n 0, 1) := by decide +kernel
theorem dX7_init_130 : decode cX7_init 130 = .ok (.getfield 7, 3) := by decide +kernel
theorem dX7_init_133 : decode cX7_init 133 = .ok (.iconst 2, 1) := by decide +kernel
theorem dX7_init_134 : decode cX7_init 134 = .ok (.bipush 7, 2) := by decide +kernel
theorem dX7_init_136 : decode cX7_init 136 = .ok (.iastore, 1) := by decide +kernel
theorem dX7_init_137 : decode cX7_init 137 = .ok (.aload_n 0, 1) := by decide +kernel
theorem dX7_init_138 : decode cX7_init 138 = .ok (.getfield 7, 3) := by decide +kernel
theorem dX7_init_141 : decode cX7_init 141 = .ok (.iconst 3, 1) := by decide +kernel
theorem dX7_init_142 : decode cX7_init 142 = .ok (.iconst 1, 1) := by decide +kernel
theorem dX7_init_143 : decode cX7_init 143 = .ok (.iastore, 1) := by decide +kernel
theorem dX7_init_144 : decode cX7_init 144 = .ok (.iconst 0, 1) := by decide +kernel
theorem dX7_init_145 : decode cX7_init 145 = .ok (.istore_n 1, 1) := by decide +kernel
theorem dX7_init_146 : decode cX7_init 146 = .ok (.iload_n 1, 1) := by decide +kernel
theorem dX7_init_147 : decode cX7_init 147 = .ok (.iconst 4, 1) := by decide +kernel
theorem dX7_init_148 : decode cX7_init 148 = .ok (.if_icmp .ge 16, 3) := by decide +kernel
theorem dX7_init_151 : decode cX7_init 151 = .ok (.aload_n 0, 1) := by decide +kernel
theorem dX7_init_152 : decode cX7_init 152 = .ok (.getfield 44, 3) := by decide +kernel
theorem dX7_init_155 : decode cX7_init 155 = .ok (.iload_n 1, 1) := by decide +kernel
theorem dX7_init_156 : decode cX7_init 156 = .ok (.iconst (-1), 1) := by decide +kernel
theorem dX7_init_157 : decode cX7_init 157 = .ok (.iastore, 1) := by decide +kernel
theorem dX7_init_158 : decode cX7_init 158 = .ok (.iinc 1 1, 3) := by decide +kernel
theorem dX7_init_161 : decode cX7_init 161 = .ok (.goto (-15), 3) := by decide +kernel
theorem dX7_init_164 : decode cX7_init 164 = .ok (.return_, 1) := by decide +kernel
theorem dX7_lines_0 : decode cX7_lines 0 = .ok (.iconst 2, 1) := by decide +kernel
theorem dX7_lines_1 : decode cX7_lines 1 = .ok (.aload_n 0, 1) := by decide +kernel
theorem dX7_lines_2 : decode cX7_lines 2 = .ok (.getfield 7, 3) := by decide +kernel
theorem dX7_lines_5 : decode cX7_lines 5 = .ok (.iconst 0, 1) := by decide +kernel
theorem dX7_lines_6 : decode cX7_lines 6 = .ok (.iaload, 1) := by decide +kernel
theorem dX7_lines_7 : decode cX7_lines 7 = .ok (.imul, 1) := by decide +kernel
theorem dX7_lines_8 : decode cX7_lines 8 = .ok (.iconst 1, 1) := by decide +kernel
theorem dX7_lines_9 : decode cX7_lines 9 = .ok (.isub, 1) := by decide +kernel
theorem dX7_lines_10 : decode cX7_lines 10 = .ok (.ireturn, 1) := by decide +kernel
theorem dX7_isNumber_0 : decode cX7_isNumber 0 = .ok (.lload_n 1, 1) := by decide +kernel
theorem dX7_isNumber_1 : decode cX7_isNumber 1 = .ok (.lconst 0, 1) := by decide +kernel
theorem dX7_isNumber_2 : decode cX7_isNumber 2 = .ok (.aload_n 0, 1) := by decide +kernel
theorem dX7_isNumber_3 : decode cX7_isNumber 3 = .ok (.getfield 7, 3) := by decide +kernel
theorem dX7_isNumber_6 : decode cX7_isNumber 6 = .ok (.iconst 2, 1) := by decide +kernel
theorem dX7_isNumber_7 : decode cX7_isNumber 7 = .ok (.iaload, 1) := by decide +kernel
theorem dX7_isNumber_8 : decode cX7_isNumber 8 = .ok (.iconst 1, 1) := by decide +kernel
theorem dX7_isNumber_9 : decode cX7_isNumber 9 = .ok (.isub, 1) := by decide +kernel
theorem dX7_isNumber_10 : decode cX7_isNumber 10 = .ok (.i2l, 1) := by decide +kernel
theorem dX7_isNumber_11 : decode cX7_isNumber 11 = .ok (.invokestatic 57, 3) := by decide +kernel
theorem dX7_isNumber_14 : decode cX7_isNumber 14 = .ok (.ireturn, 1) := by decide +kernel
theorem dX7_isLine_0 : decode cX7_isLine 0 = .ok (.iload_n 1, 1) := by decide +kernel
theorem dX7_isLine_1 : decode cX7_isLine 1 = .ok (.i2l, 1) := by decide +kernel
theorem dX7_isLine_2 : decode cX7_isLine 2 = .ok (.lconst 0, 1) := by decide +kernel
theorem dX7_isLine_3 : decode cX7_isLine 3 = .ok (.aload_n 0, 1) := by decide +kernel
theorem dX7_isLine_4 : decode cX7_isLine 4 = .ok (.invokevirtual 61, 3) := by decide +kernel
theorem dX7_isLine_7 : decode cX7_isLine 7 = .ok (.iconst 1, 1) := by decide +kernel
theorem dX7_isLine_8 : decode cX7_isLine 8 = .ok (.isub, 1) := by decide +kernel
theorem dX7_isLine_9 : decode cX7_isLine 9 = .ok (.i2l, 1) := by decide +kernel
theorem dX7_isLine_10 : decode cX7_isLine 10 = .ok (.invokestatic 57, 3) := by decide +kernel
theorem dX7_isLine_13 : decode cX7_isLine 13 = .ok (.ireturn, 1) := by decide +kernel
theorem dX7_isRow_0 : decode cX7_isRow 0 = .ok (.iload_n 1, 1) := by decide +kernel
theorem dX7_isRow_1 : decode cX7_isRow 1 = .ok (.i2l, 1) := by decide +kernel
theorem dX7_isRow_2 : decode cX7_isRow 2 = .ok (.lconst 0, 1) := by decide +kernel
theorem dX7_isRow_3 : decode cX7_isRow 3 = .ok (.aload_n 0, 1) := by decide +kernel
theorem dX7_isRow_4 : decode cX7_isRow 4 = .ok (.getfield 7, 3) := by decide +kernel
theorem dX7_isRow_7 : decode cX7_isRow 7 = .ok (.iconst 0, 1) := by decide +kernel
theorem dX7_isRow_8 : decode cX7_isRow 8 = .ok (.iaload, 1) := by decide +kernel
theorem dX7_isRow_9 : decode cX7_isRow 9 = .ok (.iconst 1, 1) := by decide +kernel
theorem dX7_isRow_10 : decode cX7_isRow 10 = .ok (.isub, 1) := by decide +kernel
theorem dX7_isRow_11 : decode cX7_isRow 11 = .ok (.i2l, 1) := by decide +kernel
theorem dX7_isRow_12 : decode cX7_isRow 12 = .ok (.invokestatic 57, 3) := by decide +kernel
theorem dX7_isRow_15 : decode cX7_isRow 15 = .ok (.ireturn, 1) := by decide +kernel
theorem dX7_entryBy_0 : decode cX7_entryBy 0 = .ok (.aload_n 0, 1) := by decide +kernel
theorem dX7_entryBy_1 : decode cX7_entryBy 1 = .ok (.getfield 7, 3) := by decide +kernel
theorem dX7_entryBy_4 : decode cX7_entryBy 4 = .ok (.iconst 0, 1) := by decide +kernel
theorem dX7_entryBy_5 : decode cX7_entryBy 5 = .ok (.iaload, 1) := by decide +kernel
theorem dX7_entryBy_6 : decode cX7_entryBy 6 = .ok (.istore 4, 2) := by decide +kernel
theorem dX7_entryBy_8 : decode cX7_entryBy 8 = .ok (.iconst 4, 1) := by decide +kernel
theorem dX7_entryBy_9 : decode cX7_entryBy 9 = .ok (.iload 4, 2) := by decide +kernel
theorem dX7_entryBy_11 : decode cX7_entryBy 11 = .ok (.iadd, 1) := by decide +kernel
theorem dX7_entryBy_12 : decode cX7_entryBy 12 = .ok (.iconst 1, 1) := by decide +kernel
theorem dX7_entryBy_13 : decode cX7_entryBy 13 = .ok (.isub, 1) := by decide +kernel
theorem dX7_entryBy_14 : decode cX7_entryBy 14 = .ok (.istore 5, 2) := by decide +kernel
theorem dX7_entryBy_16 : decode cX7_entryBy 16 = .ok (.iload_n 2, 1) := by decide +kernel
theorem dX7_entryBy_17 : decode cX7_entryBy 17 = .ok (.iload_n 3, 1) := by decide +kernel
theorem dX7_entryBy_18 : decode cX7_entryBy 18 = .ok (.if_icmp .ge 9, 3) := by decide +kernel
theorem dX7_entryBy_21 : decode cX7_entryBy 21 = .ok (.iload_n 3, 1) := by decide +kernel
theorem dX7_entryBy_22 : decode cX7_entryBy 22 = .ok (.iload_n 2, 1) := by decide +kernel
theorem dX7_entryBy_23 : decode cX7_entryBy 23 = .ok (.isub, 1) := by decide +kernel
theorem dX7_entryBy_24 : decode cX7_entryBy 24 = .ok (.goto 6, 3) := by decide +kernel
theorem dX7_entryBy_27 : decode cX7_entryBy 27 = .ok (.iload_n 2, 1) := by decide +kernel
theorem dX7_entryBy_28 : decode cX7_entryBy 28 = .ok (.iload_n 3, 1) := by decide +kernel
theorem dX7_entryBy_29 : decode cX7_entryBy 29 = .ok (.isub, 1) := by decide +kernel
theorem dX7_entryBy_30 : decode cX7_entryBy 30 = .ok (.istore 6, 2) := by decide +kernel
theorem dX7_entryBy_32 : decode cX7_entryBy 32 = .ok (.iload_n 1, 1) := by decide +kernel
theorem dX7_entryBy_33 : decode cX7_entryBy 33 = .ok (.tableswitch 89 0 3 #[31, 43, 60, 71], 31) := by decide +kernel
theorem dX7_entryBy_64 : decode cX7_entryBy 64 = .ok (.aload_n 0, 1) := by decide +kernel
theorem dX7_entryBy_65 : decode cX7_entryBy 65 = .ok (.getfield 7, 3) := by decide +kernel
theorem dX7_entryBy_68 : decode cX7_entryBy 68 = .ok (.iload 5, 2) := by decide +kernel
theorem dX7_entryBy_70 : decode cX7_entryBy 70 = .ok (.iload_n 2, 1) := by decide +kernel
theorem dX7_entryBy_71 : decode cX7_entryBy 71 = .ok (.iadd, 1) := by decide +kernel
theorem dX7_entryBy_72 : decode cX7_entryBy 72 = .ok (.iload_n 3, 1) := by decide +kernel
theorem dX7_entryBy_73 : decode cX7_entryBy 73 = .ok (.isub, 1) := by decide +kernel
theorem dX7_entryBy_74 : decode cX7_entryBy 74 = .ok (.iaload, 1) := by decide +kernel
theorem dX7_entryBy_75 : decode cX7_entryBy 75 = .ok (.ireturn, 1) := by decide +kernel
theorem dX7_entryBy_76 : decode cX7_entryBy 76 = .ok (.aload_n 0, 1) := by decide +kernel
theorem dX7_entryBy_77 : decode cX7_entryBy 77 = .ok (.getfield 7, 3) := by decide +kernel
theorem dX7_entryBy_80 : decode cX7_entryBy 80 = .ok (.iload 5, 2) := by decide +kernel
theorem dX7_entryBy_82 : decode cX7_entryBy 82 = .ok (.iload_n 2, 1) := by decide +kernel
theorem dX7_entryBy_83 : decode cX7_entryBy 83 = .ok (.iadd, 1) := by decide +kernel
theorem dX7_entryBy_84 : decode cX7_entryBy 84 = .ok (.iload 4, 2) := by decide +kernel
theorem dX7_entryBy_86 : decode cX7_entryBy 86 = .ok (.iconst 1, 1) := by decide +kernel
theorem dX7_entryBy_87 : decode cX7_entryBy 87 = .ok (.isub, 1) := by decide +kernel
theorem dX7_entryBy_88 : decode cX7_entryBy 88 = .ok (.iload_n 3, 1) := by decide +kernel
theorem dX7_entryBy_89 : decode cX7_entryBy 89 = .ok (.isub, 1) := by decide +kernel
theorem dX7_entryBy_90 : decode cX7_entryBy 90 = .ok (.isub, 1) := by decide +kernel
theorem dX7_entryBy_91 : decode cX7_entryBy 91 = .ok (.iaload, 1) := by decide +kernel
theorem dX7_entryBy_92 : decode cX7_entryBy 92 = .ok (.ireturn, 1) := by decide +kernel
theorem dX7_entryBy_93 : decode cX7_entryBy 93 = .ok (.aload_n 0, 1) := by decide +kernel
theorem dX7_entryBy_94 : decode cX7_entryBy 94 = .ok (.getfield 7, 3) := by decide +kernel
theorem dX7_entryBy_97 : decode cX7_entryBy 97 = .ok (.iload 5, 2) := by decide +kernel
theorem dX7_entryBy_99 : decode cX7_entryBy 99 = .ok (.iload 6, 2) := by decide +kernel
theorem dX7_entryBy_101 : decode cX7_entryBy 101 = .ok (.iadd, 1) := by decide +kernel
theorem dX7_entryBy_102 : decode cX7_entryBy 102 = .ok (.iaload, 1) := by decide +kernel
theorem dX7_entryBy_103 : decode cX7_entryBy 103 = .ok (.ireturn, 1) := by decide +kernel
theorem dX7_entryBy_104 : decode cX7_entryBy 104 = .ok (.aload_n 0, 1) := by decide +kernel
theorem dX7_entryBy_105 : decode cX7_entryBy 105 = .ok (.getfield 7, 3) := by decide +kernel
theorem dX7_entryBy_108 : decode cX7_entryBy 108 = .ok (.iload 5, 2) := by decide +kernel
theorem dX7_entryBy_110 : decode cX7_entryBy 110 = .ok (.iload_n 2, 1) := by decide +kernel
theorem dX7_entryBy_111 : decode cX7_entryBy 111 = .ok (.iload_n 3, 1) := by decide +kernel
theorem dX7_entryBy_112 : decode cX7_entryBy 112 = .ok (.isub, 1) := by decide +kernel
theorem dX7_entryBy_113 : decode cX7_entryBy 113 = .ok (.iload 4, 2) := by decide +kernel
theorem dX7_entryBy_115 : decode cX7_entryBy 115 = .ok (.iadd, 1) := by decide +kernel
theorem dX7_entryBy_116 : decode cX7_entryBy 116 = .ok (.iload 4, 2) := by decide +kernel
theorem dX7_entryBy_118 : decode cX7_entryBy 118 = .ok (.irem, 1) := by decide +kernel
theorem dX7_entryBy_119 : decode cX7_entryBy 119 = .ok (.iadd, 1) := by decide +kernel
theorem dX7_entryBy_120 : decode cX7_entryBy 120 = .ok (.iaload, 1) := by decide +kernel
theorem dX7_entryBy_121 : decode cX7_entryBy 121 = .ok (.ireturn, 1) := by decide +kernel
theorem dX7_entryBy_122 : decode cX7_entryBy 122 = .ok (.iload_n 2, 1) := by decide +kernel
theorem dX7_entryBy_123 : decode cX7_entryBy 123 = .ok (.iload_n 3, 1) := by decide +kernel
theorem dX7_entryBy_124 : decode cX7_entryBy 124 = .ok (.if_icmp .ge 30, 3) := by decide +kernel
theorem dX7_entryBy_127 : decode cX7_entryBy 127 = .ok (.aload_n 0, 1) := by decide +kernel
theorem dX7_entryBy_128 : decode cX7_entryBy 128 = .ok (.getfield 7, 3) := by decide +kernel
theorem dX7_entryBy_131 : decode cX7_entryBy 131 = .ok (.iconst 2, 1) := by decide +kernel
theorem dX7_entryBy_132 : decode cX7_entryBy 132 = .ok (.iaload, 1) := by decide +kernel
theorem dX7_entryBy_133 : decode cX7_entryBy 133 = .ok (.aload_n 0, 1) := by decide +kernel
theorem dX7_entryBy_134 : decode cX7_entryBy 134 = .ok (.getfield 7, 3) := by decide +kernel
theorem dX7_entryBy_137 : decode cX7_entryBy 137 = .ok (.iload 5, 2) := by decide +kernel
theorem dX7_entryBy_139 : decode cX7_entryBy 139 = .ok (.iload 6, 2) := by decide +kernel
theorem dX7_entryBy_141 : decode cX7_entryBy 141 = .ok (.iadd, 1) := by decide +kernel
theorem dX7_entryBy_142 : decode cX7_entryBy 142 = .ok (.iaload, 1) := by decide +kernel
theorem dX7_entryBy_143 : decode cX7_entryBy 143 = .ok (.isub, 1) := by decide +kernel
theorem dX7_entryBy_144 : decode cX7_entryBy 144 = .ok (.aload_n 0, 1) := by decide +kernel
theorem dX7_entryBy_145 : decode cX7_entryBy 145 = .ok (.getfield 7, 3) := by decide +kernel
theorem dX7_entryBy_148 : decode cX7_entryBy 148 = .ok (.iconst 2, 1) := by decide +kernel
theorem dX7_entryBy_149 : decode cX7_entryBy 149 = .ok (.iaload, 1) := by decide +kernel
theorem dX7_entryBy_150 : decode cX7_entryBy 150 = .ok (.irem, 1) := by decide +kernel
theorem dX7_entryBy_151 : decode cX7_entryBy 151 = .ok (.goto 13, 3) := by decide +kernel
theorem dX7_entryBy_154 : decode cX7_entryBy 154 = .ok (.aload_n 0, 1) := by decide +kernel
theorem dX7_entryBy_155 : decode cX7_entryBy 155 = .ok (.getfield 7, 3) := by decide +kernel
theorem dX7_entryBy_158 : decode cX7_entryBy 158 = .ok (.iload 5, 2) := by decide +kernel
theorem dX7_entryBy_160 : decode cX7_entryBy 160 = .ok (.iload 6, 2) := by decide +kernel
theorem dX7_entryBy_162 : decode cX7_entryBy 162 = .ok (.iadd, 1) := by decide +kernel
theorem dX7_entryBy_163 : decode cX7_entryBy 163 = .ok (.iaload, 1) := by decide +kernel
theorem dX7_entryBy_164 : decode cX7_entryBy 164 = .ok (.ireturn, 1) := by decide +kernel
theorem dX7_inverseOf_0 : decode cX7_inverseOf 0 = .ok (.iconst 1, 1) := by decide +kernel
theorem dX7_inverseOf_1 : decode cX7_inverseOf 1 = .ok (.istore_n 2, 1) := by decide +kernel
theorem dX7_inverseOf_2 : decode cX7_inverseOf 2 = .ok (.iload_n 1, 1) := by decide +kernel
theorem dX7_inverseOf_3 : decode cX7_inverseOf 3 = .ok (.iload_n 2, 1) := by decide +kernel
theorem dX7_inverseOf_4 : decode cX7_inverseOf 4 = .ok (.imul, 1) := by decide +kernel
theorem dX7_inverseOf_5 : decode cX7_inverseOf 5 = .ok (.aload_n 0, 1) := by decide +kernel
theorem dX7_inverseOf_6 : decode cX7_inverseOf 6 = .ok (.getfield 7, 3) := by decide +kernel
theorem dX7_inverseOf_9 : decode cX7_inverseOf 9 = .ok (.iconst 2, 1) := by decide +kernel
theorem dX7_inverseOf_10 : decode cX7_inverseOf 10 = .ok (.iaload, 1) := by decide +kernel
theorem dX7_inverseOf_11 : decode cX7_inverseOf 11 = .ok (.irem, 1) := by decide +kernel
theorem dX7_inverseOf_12 : decode cX7_inverseOf 12 = .ok (.iconst 1, 1) := by decide +kernel
theorem dX7_inverseOf_13 : decode cX7_inverseOf 13 = .ok (.if_icmp .eq 9, 3) := by decide +kernel
theorem dX7_inverseOf_16 : decode cX7_inverseOf 16 = .ok (.iinc 2 1, 3) := by decide +kernel
theorem dX7_inverseOf_19 : decode cX7_inverseOf 19 = .ok (.goto (-17), 3) := by decide +kernel
theorem dX7_inverseOf_22 : decode cX7_inverseOf 22 = .ok (.iload_n 2, 1) := by decide +kernel
theorem dX7_inverseOf_23 : decode cX7_inverseOf 23 = .ok (.ireturn, 1) := by decide +kernel
theorem dX7_swaps_0 : decode cX7_swaps 0 = .ok (.iconst 0, 1) := by decide +kernel
theorem dX7_swaps_1 : decode cX7_swaps 1 = .ok (.istore_n 3, 1) := by decide +kernel
theorem dX7_swaps_2 : decode cX7_swaps 2 = .ok (.iload_n 3, 1) := by decide +kernel
theorem dX7_swaps_3 : decode cX7_swaps 3 = .ok (.bipush 13, 2) := by decide +kernel
theorem dX7_swaps_5 : decode cX7_swaps 5 = .ok (.if_icmp .ge 57, 3) := by decide +kernel
theorem dX7_swaps_8 : decode cX7_swaps 8 = .ok (.aload_n 0, 1) := by decide +kernel
theorem dX7_swaps_9 : decode cX7_swaps 9 = .ok (.getfield 13, 3) := by decide +kernel
theorem dX7_swaps_12 : decode cX7_swaps 12 = .ok (.bipush 13, 2) := by decide +kernel
theorem dX7_swaps_14 : decode cX7_swaps 14 = .ok (.iload_n 1, 1) := by decide +kernel
theorem dX7_swaps_15 : decode cX7_swaps 15 = .ok (.imul, 1) := by decide +kernel
theorem dX7_swaps_16 : decode cX7_swaps 16 = .ok (.iload_n 3, 1) := by decide +kernel
theorem dX7_swaps_17 : decode cX7_swaps 17 = .ok (.iadd, 1) := by decide +kernel
theorem dX7_swaps_18 : decode cX7_swaps 18 = .ok (.iaload, 1) := by decide +kernel
theorem dX7_swaps_19 : decode cX7_swaps 19 = .ok (.istore 4, 2) := by decide +kernel
theorem dX7_swaps_21 : decode cX7_swaps 21 = .ok (.aload_n 0, 1) := by decide +kernel
theorem dX7_swaps_22 : decode cX7_swaps 22 = .ok (.getfield 13, 3) := by decide +kernel
theorem dX7_swaps_25 : decode cX7_swaps 25 = .ok (.bipush 13, 2) := by decide +kernel
theorem dX7_swaps_27 : decode cX7_swaps 27 = .ok (.iload_n 1, 1) := by decide +kernel
theorem dX7_swaps_28 : decode cX7_swaps 28 = .ok (.imul, 1) := by decide +kernel
theorem dX7_swaps_29 : decode cX7_swaps 29 = .ok (.iload_n 3, 1) := by decide +kernel
theorem dX7_swaps_30 : decode cX7_swaps 30 = .ok (.iadd, 1) := by decide +kernel
theorem dX7_swaps_31 : decode cX7_swaps 31 = .ok (.aload_n 0, 1) := by decide +kernel
theorem dX7_swaps_32 : decode cX7_swaps 32 = .ok (.getfield 13, 3) := by decide +kernel
theorem dX7_swaps_35 : decode cX7_swaps 35 = .ok (.bipush 13, 2) := by decide +kernel
theorem dX7_swaps_37 : decode cX7_swaps 37 = .ok (.iload_n 2, 1) := by decide +kernel
theorem dX7_swaps_38 : decode cX7_swaps 38 = .ok (.imul, 1) := by decide +kernel
theorem dX7_swaps_39 : decode cX7_swaps 39 = .ok (.iload_n 3, 1) := by decide +kernel
theorem dX7_swaps_40 : decode cX7_swaps 40 = .ok (.iadd, 1) := by decide +kernel
theorem dX7_swaps_41 : decode cX7_swaps 41 = .ok (.iaload, 1) := by decide +kernel
theorem dX7_swaps_42 : decode cX7_swaps 42 = .ok (.iastore, 1) := by decide +kernel
theorem dX7_swaps_43 : decode cX7_swaps 43 = .ok (.aload_n 0, 1) := by decide +kernel
theorem dX7_swaps_44 : decode cX7_swaps 44 = .ok (.getfield 13, 3) := by decide +kernel
theorem dX7_swaps_47 : decode cX7_swaps 47 = .ok (.bipush 13, 2) := by decide +kernel
theorem dX7_swaps_49 : decode cX7_swaps 49 = .ok (.iload_n 2, 1) := by decide +kernel
theorem dX7_swaps_50 : decode cX7_swaps 50 = .ok (.imul, 1) := by decide +kernel
theorem dX7_swaps_51 : decode cX7_swaps 51 = .ok (.iload_n 3, 1) := by decide +kernel
theorem dX7_swaps_52 : decode cX7_swaps 52 = .ok (.iadd, 1) := by decide +kernel
theorem dX7_swaps_53 : decode cX7_swaps 53 = .ok (.iload 4, 2) := by decide +kernel
theorem dX7_swaps_55 : decode cX7_swaps 55 = .ok (.iastore, 1) := by decide +kernel
theorem dX7_swaps_56 : decode cX7_swaps 56 = .ok (.iinc 3 1, 3) := by decide +kernel
theorem dX7_swaps_59 : decode cX7_swaps 59 = .ok (.goto (-57), 3) := by decide +kernel
theorem dX7_swaps_62 : decode cX7_swaps 62 = .ok (.return_, 1) := by decide +kernel
theorem dX7_multiplies_0 : decode cX7_multiplies 0 = .ok (.iconst 0, 1) := by decide +kernel
theorem dX7_multiplies_1 : decode cX7_multiplies 1 = .ok (.istore_n 3, 1) := by decide +kernel
theorem dX7_multiplies_2 : decode cX7_multiplies 2 = .ok (.iload_n 3, 1) := by decide +kernel
theorem dX7_multiplies_3 : decode cX7_multiplies 3 = .ok (.bipush 13, 2) := by decide +kernel
theorem dX7_multiplies_5 : decode cX7_multiplies 5 = .ok (.if_icmp .ge 40, 3) := by decide +kernel
theorem dX7_multiplies_8 : decode cX7_multiplies 8 = .ok (.aload_n 0, 1) := by decide +kernel
theorem dX7_multiplies_9 : decode cX7_multiplies 9 = .ok (.getfield 13, 3) := by decide +kernel
theorem dX7_multiplies_12 : decode cX7_multiplies 12 = .ok (.bipush 13, 2) := by decide +kernel
theorem dX7_multiplies_14 : decode cX7_multiplies 14 = .ok (.iload_n 1, 1) := by decide +kernel
theorem dX7_multiplies_15 : decode cX7_multiplies 15 = .ok (.imul, 1) := by decide +kernel
theorem dX7_multiplies_16 : decode cX7_multiplies 16 = .ok (.iload_n 3, 1) := by decide +kernel
theorem dX7_multiplies_17 : decode cX7_multiplies 17 = .ok (.iadd, 1) := by decide +kernel
theorem dX7_multiplies_18 : decode cX7_multiplies 18 = .ok (.aload_n 0, 1) := by decide +kernel
theorem dX7_multiplies_19 : decode cX7_multiplies 19 = .ok (.getfield 13, 3) := by decide +kernel
theorem dX7_multiplies_22 : decode cX7_multiplies 22 = .ok (.bipush 13, 2) := by decide +kernel
theorem dX7_multiplies_24 : decode cX7_multiplies 24 = .ok (.iload_n 1, 1) := by decide +kernel
theorem dX7_multiplies_25 : decode cX7_multiplies 25 = .ok (.imul, 1) := by decide +kernel
theorem dX7_multiplies_26 : decode cX7_multiplies 26 = .ok (.iload_n 3, 1) := by decide +kernel
theorem dX7_multiplies_27 : decode cX7_multiplies 27 = .ok (.iadd, 1) := by decide +kernel
theorem dX7_multiplies_28 : decode cX7_multiplies 28 = .ok (.iaload, 1) := by decide +kernel
theorem dX7_multiplies_29 : decode cX7_multiplies 29 = .ok (.iload_n 2, 1) := by decide +kernel
theorem dX7_multiplies_30 : decode cX7_multiplies 30 = .ok (.imul, 1) := by decide +kernel
theorem dX7_multiplies_31 : decode cX7_multiplies 31 = .ok (.aload_n 0, 1) := by decide +kernel
theorem dX7_multiplies_32 : decode cX7_multiplies 32 = .ok (.getfield 7, 3) := by decide +kernel
theorem dX7_multiplies_35 : decode cX7_multiplies 35 = .ok (.iconst 2, 1) := by decide +kernel
theorem dX7_multiplies_36 : decode cX7_multiplies 36 = .ok (.iaload, 1) := by decide +kernel
theorem dX7_multiplies_37 : decode cX7_multiplies 37 = .ok (.irem, 1) := by decide +kernel
theorem dX7_multiplies_38 : decode cX7_multiplies 38 = .ok (.iastore, 1) := by decide +kernel
theorem dX7_multiplies_39 : decode cX7_multiplies 39 = .ok (.iinc 3 1, 3) := by decide +kernel
theorem dX7_multiplies_42 : decode cX7_multiplies 42 = .ok (.goto (-40), 3) := by decide +kernel
theorem dX7_multiplies_45 : decode cX7_multiplies 45 = .ok (.return_, 1) := by decide +kernel
theorem dX7_takes_0 : decode cX7_takes 0 = .ok (.aload_n 0, 1) := by decide +kernel
theorem dX7_takes_1 : decode cX7_takes 1 = .ok (.getfield 7, 3) := by decide +kernel
theorem dX7_takes_4 : decode cX7_takes 4 = .ok (.iconst 2, 1) := by decide +kernel
theorem dX7_takes_5 : decode cX7_takes 5 = .ok (.iaload, 1) := by decide +kernel
theorem dX7_takes_6 : decode cX7_takes 6 = .ok (.istore 4, 2) := by decide +kernel
theorem dX7_takes_8 : decode cX7_takes 8 = .ok (.iconst 0, 1) := by decide +kernel
theorem dX7_takes_9 : decode cX7_takes 9 = .ok (.istore 5, 2) := by decide +kernel
theorem dX7_takes_11 : decode cX7_takes 11 = .ok (.iload 5, 2) := by decide +kernel
theorem dX7_takes_13 : decode cX7_takes 13 = .ok (.bipush 13, 2) := by decide +kernel
theorem dX7_takes_15 : decode cX7_takes 15 = .ok (.if_icmp .ge 54, 3) := by decide +kernel
theorem dX7_takes_18 : decode cX7_takes 18 = .ok (.aload_n 0, 1) := by decide +kernel
theorem dX7_takes_19 : decode cX7_takes 19 = .ok (.getfield 13, 3) := by decide +kernel
theorem dX7_takes_22 : decode cX7_takes 22 = .ok (.bipush 13, 2) := by decide +kernel
theorem dX7_takes_24 : decode cX7_takes 24 = .ok (.iload_n 1, 1) := by decide +kernel
theorem dX7_takes_25 : decode cX7_takes 25 = .ok (.imul, 1) := by decide +kernel
theorem dX7_takes_26 : decode cX7_takes 26 = .ok (.iload 5, 2) := by decide +kernel
theorem dX7_takes_28 : decode cX7_takes 28 = .ok (.iadd, 1) := by decide +kernel
theorem dX7_takes_29 : decode cX7_takes 29 = .ok (.aload_n 0, 1) := by decide +kernel
theorem dX7_takes_30 : decode cX7_takes 30 = .ok (.getfield 13, 3) := by decide +kernel
theorem dX7_takes_33 : decode cX7_takes 33 = .ok (.bipush 13, 2) := by decide +kernel
theorem dX7_takes_35 : decode cX7_takes 35 = .ok (.iload_n 1, 1) := by decide +kernel
theorem dX7_takes_36 : decode cX7_takes 36 = .ok (.imul, 1) := by decide +kernel
theorem dX7_takes_37 : decode cX7_takes 37 = .ok (.iload 5, 2) := by decide +kernel
theorem dX7_takes_39 : decode cX7_takes 39 = .ok (.iadd, 1) := by decide +kernel
theorem dX7_takes_40 : decode cX7_takes 40 = .ok (.iaload, 1) := by decide +kernel
theorem dX7_takes_41 : decode cX7_takes 41 = .ok (.iload 4, 2) := by decide +kernel
theorem dX7_takes_43 : decode cX7_takes 43 = .ok (.iload_n 3, 1) := by decide +kernel
theorem dX7_takes_44 : decode cX7_takes 44 = .ok (.isub, 1) := by decide +kernel
theorem dX7_takes_45 : decode cX7_takes 45 = .ok (.aload_n 0, 1) := by decide +kernel
theorem dX7_takes_46 : decode cX7_takes 46 = .ok (.getfield 13, 3) := by decide +kernel
theorem dX7_takes_49 : decode cX7_takes 49 = .ok (.bipush 13, 2) := by decide +kernel
theorem dX7_takes_51 : decode cX7_takes 51 = .ok (.iload_n 2, 1) := by decide +kernel
theorem dX7_takes_52 : decode cX7_takes 52 = .ok (.imul, 1) := by decide +kernel
theorem dX7_takes_53 : decode cX7_takes 53 = .ok (.iload 5, 2) := by decide +kernel
theorem dX7_takes_55 : decode cX7_takes 55 = .ok (.iadd, 1) := by decide +kernel
theorem dX7_takes_56 : decode cX7_takes 56 = .ok (.iaload, 1) := by decide +kernel
theorem dX7_takes_57 : decode cX7_takes 57 = .ok (.imul, 1) := by decide +kernel
theorem dX7_takes_58 : decode cX7_takes 58 = .ok (.iadd, 1) := by decide +kernel
theorem dX7_takes_59 : decode cX7_takes 59 = .ok (.iload 4, 2) := by decide +kernel
theorem dX7_takes_61 : decode cX7_takes 61 = .ok (.irem, 1) := by decide +kernel
theorem dX7_takes_62 : decode cX7_takes 62 = .ok (.iastore, 1) := by decide +kernel
theorem dX7_takes_63 : decode cX7_takes 63 = .ok (.iinc 5 1, 3) := by decide +kernel
theorem dX7_takes_66 : decode cX7_takes 66 = .ok (.goto (-55), 3) := by decide +kernel
theorem dX7_takes_69 : decode cX7_takes 69 = .ok (.return_, 1) := by decide +kernel
theorem dX7_pivot_0 : decode cX7_pivot 0 = .ok (.bipush (-4), 2) := by decide +kernel
theorem dX7_pivot_2 : decode cX7_pivot 2 = .ok (.istore 4, 2) := by decide +kernel
theorem dX7_pivot_4 : decode cX7_pivot 4 = .ok (.iload_n 2, 1) := by decide +kernel
theorem dX7_pivot_5 : decode cX7_pivot 5 = .ok (.iconst 1, 1) := by decide +kernel
theorem dX7_pivot_6 : decode cX7_pivot 6 = .ok (.isub, 1) := by decide +kernel
theorem dX7_pivot_7 : decode cX7_pivot 7 = .ok (.istore 5, 2) := by decide +kernel
theorem dX7_pivot_9 : decode cX7_pivot 9 = .ok (.iload 5, 2) := by decide +kernel
theorem dX7_pivot_11 : decode cX7_pivot 11 = .ok (.iload_n 1, 1) := by decide +kernel
theorem dX7_pivot_12 : decode cX7_pivot 12 = .ok (.if_icmp .lt 33, 3) := by decide +kernel
theorem dX7_pivot_15 : decode cX7_pivot 15 = .ok (.aload_n 0, 1) := by decide +kernel
theorem dX7_pivot_16 : decode cX7_pivot 16 = .ok (.getfield 13, 3) := by decide +kernel
theorem dX7_pivot_19 : decode cX7_pivot 19 = .ok (.bipush 13, 2) := by decide +kernel
theorem dX7_pivot_21 : decode cX7_pivot 21 = .ok (.iload 5, 2) := by decide +kernel
theorem dX7_pivot_23 : decode cX7_pivot 23 = .ok (.imul, 1) := by decide +kernel
theorem dX7_pivot_24 : decode cX7_pivot 24 = .ok (.iload_n 3, 1) := by decide +kernel
theorem dX7_pivot_25 : decode cX7_pivot 25 = .ok (.iadd, 1) := by decide +kernel
theorem dX7_pivot_26 : decode cX7_pivot 26 = .ok (.iaload, 1) := by decide +kernel
theorem dX7_pivot_27 : decode cX7_pivot 27 = .ok (.ifCond .eq 8, 3) := by decide +kernel
theorem dX7_pivot_30 : decode cX7_pivot 30 = .ok (.iload 5, 2) := by decide +kernel
theorem dX7_pivot_32 : decode cX7_pivot 32 = .ok (.goto 5, 3) := by decide +kernel
theorem dX7_pivot_35 : decode cX7_pivot 35 = .ok (.iload 4, 2) := by decide +kernel
theorem dX7_pivot_37 : decode cX7_pivot 37 = .ok (.istore 4, 2) := by decide +kernel
theorem dX7_pivot_39 : decode cX7_pivot 39 = .ok (.iinc 5 (-1), 3) := by decide +kernel
theorem dX7_pivot_42 : decode cX7_pivot 42 = .ok (.goto (-33), 3) := by decide +kernel
theorem dX7_pivot_45 : decode cX7_pivot 45 = .ok (.iload 4, 2) := by decide +kernel
theorem dX7_pivot_47 : decode cX7_pivot 47 = .ok (.ireturn, 1) := by decide +kernel
theorem dX7_fills_0 : decode cX7_fills 0 = .ok (.iconst 0, 1) := by decide +kernel
theorem dX7_fills_1 : decode cX7_fills 1 = .ok (.istore_n 3, 1) := by decide +kernel
theorem dX7_fills_2 : decode cX7_fills 2 = .ok (.iload_n 3, 1) := by decide +kernel
theorem dX7_fills_3 : decode cX7_fills 3 = .ok (.iload_n 1, 1) := by decide +kernel
theorem dX7_fills_4 : decode cX7_fills 4 = .ok (.if_icmp .ge 73, 3) := by decide +kernel
theorem dX7_fills_7 : decode cX7_fills 7 = .ok (.iconst 0, 1) := by decide +kernel
theorem dX7_fills_8 : decode cX7_fills 8 = .ok (.istore 4, 2) := by decide +kernel
theorem dX7_fills_10 : decode cX7_fills 10 = .ok (.iload 4, 2) := by decide +kernel
theorem dX7_fills_12 : decode cX7_fills 12 = .ok (.bipush 13, 2) := by decide +kernel
theorem dX7_fills_14 : decode cX7_fills 14 = .ok (.if_icmp .ge 22, 3) := by decide +kernel
theorem dX7_fills_17 : decode cX7_fills 17 = .ok (.aload_n 0, 1) := by decide +kernel
theorem dX7_fills_18 : decode cX7_fills 18 = .ok (.getfield 13, 3) := by decide +kernel
theorem dX7_fills_21 : decode cX7_fills 21 = .ok (.bipush 13, 2) := by decide +kernel
theorem dX7_fills_23 : decode cX7_fills 23 = .ok (.iload_n 3, 1) := by decide +kernel
theorem dX7_fills_24 : decode cX7_fills 24 = .ok (.imul, 1) := by decide +kernel
theorem dX7_fills_25 : decode cX7_fills 25 = .ok (.iload 4, 2) := by decide +kernel
theorem dX7_fills_27 : decode cX7_fills 27 = .ok (.iadd, 1) := by decide +kernel
theorem dX7_fills_28 : decode cX7_fills 28 = .ok (.iconst 0, 1) := by decide +kernel
theorem dX7_fills_29 : decode cX7_fills 29 = .ok (.iastore, 1) := by decide +kernel
theorem dX7_fills_30 : decode cX7_fills 30 = .ok (.iinc 4 1, 3) := by decide +kernel
theorem dX7_fills_33 : decode cX7_fills 33 = .ok (.goto (-23), 3) := by decide +kernel
theorem dX7_fills_36 : decode cX7_fills 36 = .ok (.iconst 0, 1) := by decide +kernel
theorem dX7_fills_37 : decode cX7_fills 37 = .ok (.istore 4, 2) := by decide +kernel
theorem dX7_fills_39 : decode cX7_fills 39 = .ok (.iload 4, 2) := by decide +kernel
theorem dX7_fills_41 : decode cX7_fills 41 = .ok (.iload_n 1, 1) := by decide +kernel
theorem dX7_fills_42 : decode cX7_fills 42 = .ok (.if_icmp .ge 29, 3) := by decide +kernel
theorem dX7_fills_45 : decode cX7_fills 45 = .ok (.aload_n 0, 1) := by decide +kernel
theorem dX7_fills_46 : decode cX7_fills 46 = .ok (.getfield 13, 3) := by decide +kernel
theorem dX7_fills_49 : decode cX7_fills 49 = .ok (.bipush 13, 2) := by decide +kernel
theorem dX7_fills_51 : decode cX7_fills 51 = .ok (.iload_n 3, 1) := by decide +kernel
theorem dX7_fills_52 : decode cX7_fills 52 = .ok (.imul, 1) := by decide +kernel
theorem dX7_fills_53 : decode cX7_fills 53 = .ok (.iload 4, 2) := by decide +kernel
theorem dX7_fills_55 : decode cX7_fills 55 = .ok (.iadd, 1) := by decide +kernel
theorem dX7_fills_56 : decode cX7_fills 56 = .ok (.aload_n 0, 1) := by decide +kernel
theorem dX7_fills_57 : decode cX7_fills 57 = .ok (.iload_n 2, 1) := by decide +kernel
theorem dX7_fills_58 : decode cX7_fills 58 = .ok (.iload_n 3, 1) := by decide +kernel
theorem dX7_fills_59 : decode cX7_fills 59 = .ok (.iload 4, 2) := by decide +kernel
theorem dX7_fills_61 : decode cX7_fills 61 = .ok (.invokevirtual 65, 3) := by decide +kernel
theorem dX7_fills_64 : decode cX7_fills 64 = .ok (.iastore, 1) := by decide +kernel
theorem dX7_fills_65 : decode cX7_fills 65 = .ok (.iinc 4 1, 3) := by decide +kernel
theorem dX7_fills_68 : decode cX7_fills 68 = .ok (.goto (-29), 3) := by decide +kernel
theorem dX7_fills_71 : decode cX7_fills 71 = .ok (.iinc 3 1, 3) := by decide +kernel
theorem dX7_fills_74 : decode cX7_fills 74 = .ok (.goto (-72), 3) := by decide +kernel
theorem dX7_fills_77 : decode cX7_fills 77 = .ok (.return_, 1) := by decide +kernel
theorem dX7_cornerOf_0 : decode cX7_cornerOf 0 = .ok (.aload_n 0, 1) := by decide +kernel
theorem dX7_cornerOf_1 : decode cX7_cornerOf 1 = .ok (.getfield 7, 3) := by decide +kernel
theorem dX7_cornerOf_4 : decode cX7_cornerOf 4 = .ok (.iconst 2, 1) := by decide +kernel
theorem dX7_cornerOf_5 : decode cX7_cornerOf 5 = .ok (.iaload, 1) := by decide +kernel
theorem dX7_cornerOf_6 : decode cX7_cornerOf 6 = .ok (.istore_n 2, 1) := by decide +kernel
theorem dX7_cornerOf_7 : decode cX7_cornerOf 7 = .ok (.aload_n 0, 1) := by decide +kernel
theorem dX7_cornerOf_8 : decode cX7_cornerOf 8 = .ok (.iload_n 1, 1) := by decide +kernel
theorem dX7_cornerOf_9 : decode cX7_cornerOf 9 = .ok (.aload_n 0, 1) := by decide +kernel
theorem dX7_cornerOf_10 : decode cX7_cornerOf 10 = .ok (.getfield 7, 3) := by decide +kernel
theorem dX7_cornerOf_13 : decode cX7_cornerOf 13 = .ok (.iconst 1, 1) := by decide +kernel
theorem dX7_cornerOf_14 : decode cX7_cornerOf 14 = .ok (.iaload, 1) := by decide +kernel
theorem dX7_cornerOf_15 : decode cX7_cornerOf 15 = .ok (.invokevirtual 69, 3) := by decide +kernel
theorem dX7_cornerOf_18 : decode cX7_cornerOf 18 = .ok (.iconst 1, 1) := by decide +kernel
theorem dX7_cornerOf_19 : decode cX7_cornerOf 19 = .ok (.iload_n 2, 1) := by decide +kernel
theorem dX7_cornerOf_20 : decode cX7_cornerOf 20 = .ok (.irem, 1) := by decide +kernel
theorem dX7_cornerOf_21 : decode cX7_cornerOf 21 = .ok (.istore_n 3, 1) := by decide +kernel
theorem dX7_cornerOf_22 : decode cX7_cornerOf 22 = .ok (.iconst 0, 1) := by decide +kernel
theorem dX7_cornerOf_23 : decode cX7_cornerOf 23 = .ok (.istore 4, 2) := by decide +kernel
theorem dX7_cornerOf_25 : decode cX7_cornerOf 25 = .ok (.iload 4, 2) := by decide +kernel
theorem dX7_cornerOf_27 : decode cX7_cornerOf 27 = .ok (.iload_n 1, 1) := by decide +kernel
theorem dX7_cornerOf_28 : decode cX7_cornerOf 28 = .ok (.if_icmp .ge 129, 3) := by decide +kernel
theorem dX7_cornerOf_31 : decode cX7_cornerOf 31 = .ok (.iload_n 3, 1) := by decide +kernel
theorem dX7_cornerOf_32 : decode cX7_cornerOf 32 = .ok (.ifCond .eq 125, 3) := by decide +kernel
theorem dX7_cornerOf_35 : decode cX7_cornerOf 35 = .ok (.aload_n 0, 1) := by decide +kernel
theorem dX7_cornerOf_36 : decode cX7_cornerOf 36 = .ok (.iload 4, 2) := by decide +kernel
theorem dX7_cornerOf_38 : decode cX7_cornerOf 38 = .ok (.iload_n 1, 1) := by decide +kernel
theorem dX7_cornerOf_39 : decode cX7_cornerOf 39 = .ok (.iload 4, 2) := by decide +kernel
theorem dX7_cornerOf_41 : decode cX7_cornerOf 41 = .ok (.invokevirtual 73, 3) := by decide +kernel
theorem dX7_cornerOf_44 : decode cX7_cornerOf 44 = .ok (.istore 5, 2) := by decide +kernel
theorem dX7_cornerOf_46 : decode cX7_cornerOf 46 = .ok (.iload 5, 2) := by decide +kernel
theorem dX7_cornerOf_48 : decode cX7_cornerOf 48 = .ok (.bipush (-4), 2) := by decide +kernel
theorem dX7_cornerOf_50 : decode cX7_cornerOf 50 = .ok (.if_icmp .ne 5, 3) := by decide +kernel
theorem dX7_cornerOf_53 : decode cX7_cornerOf 53 = .ok (.iconst 0, 1) := by decide +kernel
theorem dX7_cornerOf_54 : decode cX7_cornerOf 54 = .ok (.ireturn, 1) := by decide +kernel
theorem dX7_cornerOf_55 : decode cX7_cornerOf 55 = .ok (.iload 5, 2) := by decide +kernel
theorem dX7_cornerOf_57 : decode cX7_cornerOf 57 = .ok (.iload 4, 2) := by decide +kernel
theorem dX7_cornerOf_59 : decode cX7_cornerOf 59 = .ok (.if_icmp .eq 17, 3) := by decide +kernel
theorem dX7_cornerOf_62 : decode cX7_cornerOf 62 = .ok (.aload_n 0, 1) := by decide +kernel
theorem dX7_cornerOf_63 : decode cX7_cornerOf 63 = .ok (.iload 5, 2) := by decide +kernel
theorem dX7_cornerOf_65 : decode cX7_cornerOf 65 = .ok (.iload 4, 2) := by decide +kernel
theorem dX7_cornerOf_67 : decode cX7_cornerOf 67 = .ok (.invokevirtual 76, 3) := by decide +kernel
theorem dX7_cornerOf_70 : decode cX7_cornerOf 70 = .ok (.iload_n 2, 1) := by decide +kernel
theorem dX7_cornerOf_71 : decode cX7_cornerOf 71 = .ok (.iload_n 3, 1) := by decide +kernel
theorem dX7_cornerOf_72 : decode cX7_cornerOf 72 = .ok (.isub, 1) := by decide +kernel
theorem dX7_cornerOf_73 : decode cX7_cornerOf 73 = .ok (.iload_n 2, 1) := by decide +kernel
theorem dX7_cornerOf_74 : decode cX7_cornerOf 74 = .ok (.irem, 1) := by decide +kernel
theorem dX7_cornerOf_75 : decode cX7_cornerOf 75 = .ok (.istore_n 3, 1) := by decide +kernel
theorem dX7_cornerOf_76 : decode cX7_cornerOf 76 = .ok (.iload_n 3, 1) := by decide +kernel
theorem dX7_cornerOf_77 : decode cX7_cornerOf 77 = .ok (.aload_n 0, 1) := by decide +kernel
theorem dX7_cornerOf_78 : decode cX7_cornerOf 78 = .ok (.getfield 13, 3) := by decide +kernel
theorem dX7_cornerOf_81 : decode cX7_cornerOf 81 = .ok (.bipush 14, 2) := by decide +kernel
theorem dX7_cornerOf_83 : decode cX7_cornerOf 83 = .ok (.iload 4, 2) := by decide +kernel
theorem dX7_cornerOf_85 : decode cX7_cornerOf 85 = .ok (.imul, 1) := by decide +kernel
theorem dX7_cornerOf_86 : decode cX7_cornerOf 86 = .ok (.iaload, 1) := by decide +kernel
theorem dX7_cornerOf_87 : decode cX7_cornerOf 87 = .ok (.imul, 1) := by decide +kernel
theorem dX7_cornerOf_88 : decode cX7_cornerOf 88 = .ok (.iload_n 2, 1) := by decide +kernel
theorem dX7_cornerOf_89 : decode cX7_cornerOf 89 = .ok (.irem, 1) := by decide +kernel
theorem dX7_cornerOf_90 : decode cX7_cornerOf 90 = .ok (.istore_n 3, 1) := by decide +kernel
theorem dX7_cornerOf_91 : decode cX7_cornerOf 91 = .ok (.aload_n 0, 1) := by decide +kernel
theorem dX7_cornerOf_92 : decode cX7_cornerOf 92 = .ok (.aload_n 0, 1) := by decide +kernel
theorem dX7_cornerOf_93 : decode cX7_cornerOf 93 = .ok (.getfield 13, 3) := by decide +kernel
theorem dX7_cornerOf_96 : decode cX7_cornerOf 96 = .ok (.bipush 14, 2) := by decide +kernel
theorem dX7_cornerOf_98 : decode cX7_cornerOf 98 = .ok (.iload 4, 2) := by decide +kernel
theorem dX7_cornerOf_100 : decode cX7_cornerOf 100 = .ok (.imul, 1) := by decide +kernel
theorem dX7_cornerOf_101 : decode cX7_cornerOf 101 = .ok (.iaload, 1) := by decide +kernel
theorem dX7_cornerOf_102 : decode cX7_cornerOf 102 = .ok (.invokevirtual 79, 3) := by decide +kernel
theorem dX7_cornerOf_105 : decode cX7_cornerOf 105 = .ok (.istore 6, 2) := by decide +kernel
theorem dX7_cornerOf_107 : decode cX7_cornerOf 107 = .ok (.iload 4, 2) := by decide +kernel
theorem dX7_cornerOf_109 : decode cX7_cornerOf 109 = .ok (.iconst 1, 1) := by decide +kernel
theorem dX7_cornerOf_110 : decode cX7_cornerOf 110 = .ok (.iadd, 1) := by decide +kernel
theorem dX7_cornerOf_111 : decode cX7_cornerOf 111 = .ok (.istore 7, 2) := by decide +kernel
theorem dX7_cornerOf_113 : decode cX7_cornerOf 113 = .ok (.iload 7, 2) := by decide +kernel
theorem dX7_cornerOf_115 : decode cX7_cornerOf 115 = .ok (.iload_n 1, 1) := by decide +kernel
theorem dX7_cornerOf_116 : decode cX7_cornerOf 116 = .ok (.if_icmp .ge 35, 3) := by decide +kernel
theorem dX7_cornerOf_119 : decode cX7_cornerOf 119 = .ok (.aload_n 0, 1) := by decide +kernel
theorem dX7_cornerOf_120 : decode cX7_cornerOf 120 = .ok (.iload 7, 2) := by decide +kernel
theorem dX7_cornerOf_122 : decode cX7_cornerOf 122 = .ok (.iload 4, 2) := by decide +kernel
theorem dX7_cornerOf_124 : decode cX7_cornerOf 124 = .ok (.aload_n 0, 1) := by decide +kernel
theorem dX7_cornerOf_125 : decode cX7_cornerOf 125 = .ok (.getfield 13, 3) := by decide +kernel
theorem dX7_cornerOf_128 : decode cX7_cornerOf 128 = .ok (.bipush 13, 2) := by decide +kernel
theorem dX7_cornerOf_130 : decode cX7_cornerOf 130 = .ok (.iload 7, 2) := by decide +kernel
theorem dX7_cornerOf_132 : decode cX7_cornerOf 132 = .ok (.imul, 1) := by decide +kernel
theorem dX7_cornerOf_133 : decode cX7_cornerOf 133 = .ok (.iload 4, 2) := by decide +kernel
theorem dX7_cornerOf_135 : decode cX7_cornerOf 135 = .ok (.iadd, 1) := by decide +kernel
theorem dX7_cornerOf_136 : decode cX7_cornerOf 136 = .ok (.iaload, 1) := by decide +kernel
theorem dX7_cornerOf_137 : decode cX7_cornerOf 137 = .ok (.iload 6, 2) := by decide +kernel
theorem dX7_cornerOf_139 : decode cX7_cornerOf 139 = .ok (.imul, 1) := by decide +kernel
theorem dX7_cornerOf_140 : decode cX7_cornerOf 140 = .ok (.iload_n 2, 1) := by decide +kernel
theorem dX7_cornerOf_141 : decode cX7_cornerOf 141 = .ok (.irem, 1) := by decide +kernel
theorem dX7_cornerOf_142 : decode cX7_cornerOf 142 = .ok (.invokevirtual 83, 3) := by decide +kernel
theorem dX7_cornerOf_145 : decode cX7_cornerOf 145 = .ok (.iinc 7 1, 3) := by decide +kernel
theorem dX7_cornerOf_148 : decode cX7_cornerOf 148 = .ok (.goto (-35), 3) := by decide +kernel
theorem dX7_cornerOf_151 : decode cX7_cornerOf 151 = .ok (.iinc 4 1, 3) := by decide +kernel
theorem dX7_cornerOf_154 : decode cX7_cornerOf 154 = .ok (.goto (-129), 3) := by decide +kernel
theorem dX7_cornerOf_157 : decode cX7_cornerOf 157 = .ok (.iload_n 3, 1) := by decide +kernel
theorem dX7_cornerOf_158 : decode cX7_cornerOf 158 = .ok (.ireturn, 1) := by decide +kernel
theorem dX7_worksOut_0 : decode cX7_worksOut 0 = .ok (.aload_n 0, 1) := by decide +kernel
theorem dX7_worksOut_1 : decode cX7_worksOut 1 = .ok (.iconst 0, 1) := by decide +kernel
theorem dX7_worksOut_2 : decode cX7_worksOut 2 = .ok (.putfield 87, 3) := by decide +kernel
theorem dX7_worksOut_5 : decode cX7_worksOut 5 = .ok (.iload_n 2, 1) := by decide +kernel
theorem dX7_worksOut_6 : decode cX7_worksOut 6 = .ok (.iconst 1, 1) := by decide +kernel
theorem dX7_worksOut_7 : decode cX7_worksOut 7 = .ok (.isub, 1) := by decide +kernel
theorem dX7_worksOut_8 : decode cX7_worksOut 8 = .ok (.istore_n 3, 1) := by decide +kernel
theorem dX7_worksOut_9 : decode cX7_worksOut 9 = .ok (.iload_n 3, 1) := by decide +kernel
theorem dX7_worksOut_10 : decode cX7_worksOut 10 = .ok (.ifCond .lt 142, 3) := by decide +kernel
theorem dX7_worksOut_13 : decode cX7_worksOut 13 = .ok (.aload_n 0, 1) := by decide +kernel
theorem dX7_worksOut_14 : decode cX7_worksOut 14 = .ok (.aload_n 0, 1) := by decide +kernel
theorem dX7_worksOut_15 : decode cX7_worksOut 15 = .ok (.getfield 87, 3) := by decide +kernel
theorem dX7_worksOut_18 : decode cX7_worksOut 18 = .ok (.iload_n 1, 1) := by decide +kernel
theorem dX7_worksOut_19 : decode cX7_worksOut 19 = .ok (.iload_n 3, 1) := by decide +kernel
theorem dX7_worksOut_20 : decode cX7_worksOut 20 = .ok (.invokevirtual 73, 3) := by decide +kernel
theorem dX7_worksOut_23 : decode cX7_worksOut 23 = .ok (.istore 4, 2) := by decide +kernel
theorem dX7_worksOut_25 : decode cX7_worksOut 25 = .ok (.aload_n 0, 1) := by decide +kernel
theorem dX7_worksOut_26 : decode cX7_worksOut 26 = .ok (.getfield 16, 3) := by decide +kernel
theorem dX7_worksOut_29 : decode cX7_worksOut 29 = .ok (.iload_n 3, 1) := by decide +kernel
theorem dX7_worksOut_30 : decode cX7_worksOut 30 = .ok (.iload 4, 2) := by decide +kernel
theorem dX7_worksOut_32 : decode cX7_worksOut 32 = .ok (.bipush (-4), 2) := by decide +kernel
theorem dX7_worksOut_34 : decode cX7_worksOut 34 = .ok (.if_icmp .ne 8, 3) := by decide +kernel
theorem dX7_worksOut_37 : decode cX7_worksOut 37 = .ok (.bipush (-4), 2) := by decide +kernel
theorem dX7_worksOut_39 : decode cX7_worksOut 39 = .ok (.goto 7, 3) := by decide +kernel
theorem dX7_worksOut_42 : decode cX7_worksOut 42 = .ok (.aload_n 0, 1) := by decide +kernel
theorem dX7_worksOut_43 : decode cX7_worksOut 43 = .ok (.getfield 87, 3) := by decide +kernel
theorem dX7_worksOut_46 : decode cX7_worksOut 46 = .ok (.iastore, 1) := by decide +kernel
theorem dX7_worksOut_47 : decode cX7_worksOut 47 = .ok (.iload 4, 2) := by decide +kernel
theorem dX7_worksOut_49 : decode cX7_worksOut 49 = .ok (.bipush (-4), 2) := by decide +kernel
theorem dX7_worksOut_51 : decode cX7_worksOut 51 = .ok (.if_icmp .eq 95, 3) := by decide +kernel
theorem dX7_worksOut_54 : decode cX7_worksOut 54 = .ok (.aload_n 0, 1) := by decide +kernel
theorem dX7_worksOut_55 : decode cX7_worksOut 55 = .ok (.iload 4, 2) := by decide +kernel
theorem dX7_worksOut_57 : decode cX7_worksOut 57 = .ok (.aload_n 0, 1) := by decide +kernel
theorem dX7_worksOut_58 : decode cX7_worksOut 58 = .ok (.getfield 87, 3) := by decide +kernel
theorem dX7_worksOut_61 : decode cX7_worksOut 61 = .ok (.invokevirtual 76, 3) := by decide +kernel
theorem dX7_worksOut_64 : decode cX7_worksOut 64 = .ok (.aload_n 0, 1) := by decide +kernel
theorem dX7_worksOut_65 : decode cX7_worksOut 65 = .ok (.aload_n 0, 1) := by decide +kernel
theorem dX7_worksOut_66 : decode cX7_worksOut 66 = .ok (.getfield 87, 3) := by decide +kernel
theorem dX7_worksOut_69 : decode cX7_worksOut 69 = .ok (.aload_n 0, 1) := by decide +kernel
theorem dX7_worksOut_70 : decode cX7_worksOut 70 = .ok (.aload_n 0, 1) := by decide +kernel
theorem dX7_worksOut_71 : decode cX7_worksOut 71 = .ok (.getfield 13, 3) := by decide +kernel
theorem dX7_worksOut_74 : decode cX7_worksOut 74 = .ok (.bipush 13, 2) := by decide +kernel
theorem dX7_worksOut_76 : decode cX7_worksOut 76 = .ok (.aload_n 0, 1) := by decide +kernel
theorem dX7_worksOut_77 : decode cX7_worksOut 77 = .ok (.getfield 87, 3) := by decide +kernel
theorem dX7_worksOut_80 : decode cX7_worksOut 80 = .ok (.imul, 1) := by decide +kernel
theorem dX7_worksOut_81 : decode cX7_worksOut 81 = .ok (.iload_n 3, 1) := by decide +kernel
theorem dX7_worksOut_82 : decode cX7_worksOut 82 = .ok (.iadd, 1) := by decide +kernel
theorem dX7_worksOut_83 : decode cX7_worksOut 83 = .ok (.iaload, 1) := by decide +kernel
theorem dX7_worksOut_84 : decode cX7_worksOut 84 = .ok (.invokevirtual 79, 3) := by decide +kernel
theorem dX7_worksOut_87 : decode cX7_worksOut 87 = .ok (.invokevirtual 90, 3) := by decide +kernel
theorem dX7_worksOut_90 : decode cX7_worksOut 90 = .ok (.iconst 0, 1) := by decide +kernel
theorem dX7_worksOut_91 : decode cX7_worksOut 91 = .ok (.istore 5, 2) := by decide +kernel
theorem dX7_worksOut_93 : decode cX7_worksOut 93 = .ok (.iload 5, 2) := by decide +kernel
theorem dX7_worksOut_95 : decode cX7_worksOut 95 = .ok (.iload_n 1, 1) := by decide +kernel
theorem dX7_worksOut_96 : decode cX7_worksOut 96 = .ok (.if_icmp .ge 40, 3) := by decide +kernel
theorem dX7_worksOut_99 : decode cX7_worksOut 99 = .ok (.iload 5, 2) := by decide +kernel
theorem dX7_worksOut_101 : decode cX7_worksOut 101 = .ok (.aload_n 0, 1) := by decide +kernel
theorem dX7_worksOut_102 : decode cX7_worksOut 102 = .ok (.getfield 87, 3) := by decide +kernel
theorem dX7_worksOut_105 : decode cX7_worksOut 105 = .ok (.if_icmp .eq 25, 3) := by decide +kernel
theorem dX7_worksOut_108 : decode cX7_worksOut 108 = .ok (.aload_n 0, 1) := by decide +kernel
theorem dX7_worksOut_109 : decode cX7_worksOut 109 = .ok (.iload 5, 2) := by decide +kernel
theorem dX7_worksOut_111 : decode cX7_worksOut 111 = .ok (.aload_n 0, 1) := by decide +kernel
theorem dX7_worksOut_112 : decode cX7_worksOut 112 = .ok (.getfield 87, 3) := by decide +kernel
theorem dX7_worksOut_115 : decode cX7_worksOut 115 = .ok (.aload_n 0, 1) := by decide +kernel
theorem dX7_worksOut_116 : decode cX7_worksOut 116 = .ok (.getfield 13, 3) := by decide +kernel
theorem dX7_worksOut_119 : decode cX7_worksOut 119 = .ok (.bipush 13, 2) := by decide +kernel
theorem dX7_worksOut_121 : decode cX7_worksOut 121 = .ok (.iload 5, 2) := by decide +kernel
theorem dX7_worksOut_123 : decode cX7_worksOut 123 = .ok (.imul, 1) := by decide +kernel
theorem dX7_worksOut_124 : decode cX7_worksOut 124 = .ok (.iload_n 3, 1) := by decide +kernel
theorem dX7_worksOut_125 : decode cX7_worksOut 125 = .ok (.iadd, 1) := by decide +kernel
theorem dX7_worksOut_126 : decode cX7_worksOut 126 = .ok (.iaload, 1) := by decide +kernel
theorem dX7_worksOut_127 : decode cX7_worksOut 127 = .ok (.invokevirtual 83, 3) := by decide +kernel
theorem dX7_worksOut_130 : decode cX7_worksOut 130 = .ok (.iinc 5 1, 3) := by decide +kernel
theorem dX7_worksOut_133 : decode cX7_worksOut 133 = .ok (.goto (-40), 3) := by decide +kernel
theorem dX7_worksOut_136 : decode cX7_worksOut 136 = .ok (.aload_n 0, 1) := by decide +kernel
theorem dX7_worksOut_137 : decode cX7_worksOut 137 = .ok (.dup, 1) := by decide +kernel
theorem dX7_worksOut_138 : decode cX7_worksOut 138 = .ok (.getfield 87, 3) := by decide +kernel
theorem dX7_worksOut_141 : decode cX7_worksOut 141 = .ok (.iconst 1, 1) := by decide +kernel
theorem dX7_worksOut_142 : decode cX7_worksOut 142 = .ok (.iadd, 1) := by decide +kernel
theorem dX7_worksOut_143 : decode cX7_worksOut 143 = .ok (.putfield 87, 3) := by decide +kernel
theorem dX7_worksOut_146 : decode cX7_worksOut 146 = .ok (.iinc 3 (-1), 3) := by decide +kernel
theorem dX7_worksOut_149 : decode cX7_worksOut 149 = .ok (.goto (-140), 3) := by decide +kernel
theorem dX7_worksOut_152 : decode cX7_worksOut 152 = .ok (.iconst 1, 1) := by decide +kernel
theorem dX7_worksOut_153 : decode cX7_worksOut 153 = .ok (.istore_n 3, 1) := by decide +kernel
theorem dX7_worksOut_154 : decode cX7_worksOut 154 = .ok (.aload_n 0, 1) := by decide +kernel
theorem dX7_worksOut_155 : decode cX7_worksOut 155 = .ok (.getfield 87, 3) := by decide +kernel
theorem dX7_worksOut_158 : decode cX7_worksOut 158 = .ok (.istore 4, 2) := by decide +kernel
theorem dX7_worksOut_160 : decode cX7_worksOut 160 = .ok (.iload 4, 2) := by decide +kernel
theorem dX7_worksOut_162 : decode cX7_worksOut 162 = .ok (.iload_n 1, 1) := by decide +kernel
theorem dX7_worksOut_163 : decode cX7_worksOut 163 = .ok (.if_icmp .ge 34, 3) := by decide +kernel
theorem dX7_worksOut_166 : decode cX7_worksOut 166 = .ok (.iload_n 3, 1) := by decide +kernel
theorem dX7_worksOut_167 : decode cX7_worksOut 167 = .ok (.ifCond .eq 22, 3) := by decide +kernel
theorem dX7_worksOut_170 : decode cX7_worksOut 170 = .ok (.aload_n 0, 1) := by decide +kernel
theorem dX7_worksOut_171 : decode cX7_worksOut 171 = .ok (.getfield 13, 3) := by decide +kernel
theorem dX7_worksOut_174 : decode cX7_worksOut 174 = .ok (.bipush 13, 2) := by decide +kernel
theorem dX7_worksOut_176 : decode cX7_worksOut 176 = .ok (.iload 4, 2) := by decide +kernel
theorem dX7_worksOut_178 : decode cX7_worksOut 178 = .ok (.imul, 1) := by decide +kernel
theorem dX7_worksOut_179 : decode cX7_worksOut 179 = .ok (.iload_n 2, 1) := by decide +kernel
theorem dX7_worksOut_180 : decode cX7_worksOut 180 = .ok (.iadd, 1) := by decide +kernel
theorem dX7_worksOut_181 : decode cX7_worksOut 181 = .ok (.iaload, 1) := by decide +kernel
theorem dX7_worksOut_182 : decode cX7_worksOut 182 = .ok (.ifCond .ne 7, 3) := by decide +kernel
theorem dX7_worksOut_185 : decode cX7_worksOut 185 = .ok (.iconst 1, 1) := by decide +kernel
theorem dX7_worksOut_186 : decode cX7_worksOut 186 = .ok (.goto 4, 3) := by decide +kernel
theorem dX7_worksOut_189 : decode cX7_worksOut 189 = .ok (.iconst 0, 1) := by decide +kernel
theorem dX7_worksOut_190 : decode cX7_worksOut 190 = .ok (.istore_n 3, 1) := by decide +kernel
theorem dX7_worksOut_191 : decode cX7_worksOut 191 = .ok (.iinc 4 1, 3) := by decide +kernel
theorem dX7_worksOut_194 : decode cX7_worksOut 194 = .ok (.goto (-34), 3) := by decide +kernel
theorem dX7_worksOut_197 : decode cX7_worksOut 197 = .ok (.iload_n 3, 1) := by decide +kernel
theorem dX7_worksOut_198 : decode cX7_worksOut 198 = .ok (.ireturn, 1) := by decide +kernel
theorem dX7_least_0 : decode cX7_least 0 = .ok (.aload_n 0, 1) := by decide +kernel
theorem dX7_least_1 : decode cX7_least 1 = .ok (.getfield 16, 3) := by decide +kernel
theorem dX7_least_4 : decode cX7_least 4 = .ok (.iload_n 1, 1) := by decide +kernel
theorem dX7_least_5 : decode cX7_least 5 = .ok (.iaload, 1) := by decide +kernel
theorem dX7_least_6 : decode cX7_least 6 = .ok (.bipush (-4), 2) := by decide +kernel
theorem dX7_least_8 : decode cX7_least 8 = .ok (.if_icmp .ne 7, 3) := by decide +kernel
theorem dX7_least_11 : decode cX7_least 11 = .ok (.iconst 0, 1) := by decide +kernel
theorem dX7_least_12 : decode cX7_least 12 = .ok (.goto 19, 3) := by decide +kernel
theorem dX7_least_15 : decode cX7_least 15 = .ok (.aload_n 0, 1) := by decide +kernel
theorem dX7_least_16 : decode cX7_least 16 = .ok (.getfield 13, 3) := by decide +kernel
theorem dX7_least_19 : decode cX7_least 19 = .ok (.bipush 13, 2) := by decide +kernel
theorem dX7_least_21 : decode cX7_least 21 = .ok (.aload_n 0, 1) := by decide +kernel
theorem dX7_least_22 : decode cX7_least 22 = .ok (.getfield 16, 3) := by decide +kernel
theorem dX7_least_25 : decode cX7_least 25 = .ok (.iload_n 1, 1) := by decide +kernel
theorem dX7_least_26 : decode cX7_least 26 = .ok (.iaload, 1) := by decide +kernel
theorem dX7_least_27 : decode cX7_least 27 = .ok (.imul, 1) := by decide +kernel
theorem dX7_least_28 : decode cX7_least 28 = .ok (.iload_n 2, 1) := by decide +kernel
theorem dX7_least_29 : decode cX7_least 29 = .ok (.iadd, 1) := by decide +kernel
theorem dX7_least_30 : decode cX7_least 30 = .ok (.iaload, 1) := by decide +kernel
theorem dX7_least_31 : decode cX7_least 31 = .ok (.ireturn, 1) := by decide +kernel
theorem dX7_solves_0 : decode cX7_solves 0 = .ok (.aload_n 0, 1) := by decide +kernel
theorem dX7_solves_1 : decode cX7_solves 1 = .ok (.getfield 7, 3) := by decide +kernel
theorem dX7_solves_4 : decode cX7_solves 4 = .ok (.iconst 0, 1) := by decide +kernel
theorem dX7_solves_5 : decode cX7_solves 5 = .ok (.iaload, 1) := by decide +kernel
theorem dX7_solves_6 : decode cX7_solves 6 = .ok (.istore_n 2, 1) := by decide +kernel
theorem dX7_solves_7 : decode cX7_solves 7 = .ok (.aload_n 0, 1) := by decide +kernel
theorem dX7_solves_8 : decode cX7_solves 8 = .ok (.iload_n 2, 1) := by decide +kernel
theorem dX7_solves_9 : decode cX7_solves 9 = .ok (.aload_n 0, 1) := by decide +kernel
theorem dX7_solves_10 : decode cX7_solves 10 = .ok (.getfield 7, 3) := by decide +kernel
theorem dX7_solves_13 : decode cX7_solves 13 = .ok (.iconst 1, 1) := by decide +kernel
theorem dX7_solves_14 : decode cX7_solves 14 = .ok (.iaload, 1) := by decide +kernel
theorem dX7_solves_15 : decode cX7_solves 15 = .ok (.invokevirtual 69, 3) := by decide +kernel
theorem dX7_solves_18 : decode cX7_solves 18 = .ok (.iconst 0, 1) := by decide +kernel
theorem dX7_solves_19 : decode cX7_solves 19 = .ok (.istore_n 3, 1) := by decide +kernel
theorem dX7_solves_20 : decode cX7_solves 20 = .ok (.iload_n 3, 1) := by decide +kernel
theorem dX7_solves_21 : decode cX7_solves 21 = .ok (.iload_n 2, 1) := by decide +kernel
theorem dX7_solves_22 : decode cX7_solves 22 = .ok (.if_icmp .ge 46, 3) := by decide +kernel
theorem dX7_solves_25 : decode cX7_solves 25 = .ok (.aload_n 0, 1) := by decide +kernel
theorem dX7_solves_26 : decode cX7_solves 26 = .ok (.getfield 13, 3) := by decide +kernel
theorem dX7_solves_29 : decode cX7_solves 29 = .ok (.bipush 13, 2) := by decide +kernel
theorem dX7_solves_31 : decode cX7_solves 31 = .ok (.iload_n 3, 1) := by decide +kernel
theorem dX7_solves_32 : decode cX7_solves 32 = .ok (.imul, 1) := by decide +kernel
theorem dX7_solves_33 : decode cX7_solves 33 = .ok (.iload_n 2, 1) := by decide +kernel
theorem dX7_solves_34 : decode cX7_solves 34 = .ok (.iadd, 1) := by decide +kernel
theorem dX7_solves_35 : decode cX7_solves 35 = .ok (.iload_n 1, 1) := by decide +kernel
theorem dX7_solves_36 : decode cX7_solves 36 = .ok (.ifCond .ge 15, 3) := by decide +kernel
theorem dX7_solves_39 : decode cX7_solves 39 = .ok (.aload_n 0, 1) := by decide +kernel
theorem dX7_solves_40 : decode cX7_solves 40 = .ok (.getfield 7, 3) := by decide +kernel
theorem dX7_solves_43 : decode cX7_solves 43 = .ok (.bipush 15, 2) := by decide +kernel
theorem dX7_solves_45 : decode cX7_solves 45 = .ok (.iload_n 3, 1) := by decide +kernel
theorem dX7_solves_46 : decode cX7_solves 46 = .ok (.iadd, 1) := by decide +kernel
theorem dX7_solves_47 : decode cX7_solves 47 = .ok (.iaload, 1) := by decide +kernel
theorem dX7_solves_48 : decode cX7_solves 48 = .ok (.goto 13, 3) := by decide +kernel
theorem dX7_solves_51 : decode cX7_solves 51 = .ok (.iload_n 3, 1) := by decide +kernel
theorem dX7_solves_52 : decode cX7_solves 52 = .ok (.iload_n 1, 1) := by decide +kernel
theorem dX7_solves_53 : decode cX7_solves 53 = .ok (.if_icmp .ne 7, 3) := by decide +kernel
theorem dX7_solves_56 : decode cX7_solves 56 = .ok (.iconst 1, 1) := by decide +kernel
theorem dX7_solves_57 : decode cX7_solves 57 = .ok (.goto 4, 3) := by decide +kernel
theorem dX7_solves_60 : decode cX7_solves 60 = .ok (.iconst 0, 1) := by decide +kernel
theorem dX7_solves_61 : decode cX7_solves 61 = .ok (.iastore, 1) := by decide +kernel
theorem dX7_solves_62 : decode cX7_solves 62 = .ok (.iinc 3 1, 3) := by decide +kernel
theorem dX7_solves_65 : decode cX7_solves 65 = .ok (.goto (-45), 3) := by decide +kernel
theorem dX7_solves_68 : decode cX7_solves 68 = .ok (.aload_n 0, 1) := by decide +kernel
theorem dX7_solves_69 : decode cX7_solves 69 = .ok (.iload_n 2, 1) := by decide +kernel
theorem dX7_solves_70 : decode cX7_solves 70 = .ok (.iload_n 2, 1) := by decide +kernel
theorem dX7_solves_71 : decode cX7_solves 71 = .ok (.invokevirtual 93, 3) := by decide +kernel
theorem dX7_solves_74 : decode cX7_solves 74 = .ok (.ireturn, 1) := by decide +kernel
theorem dX7_ways_0 : decode cX7_ways 0 = .ok (.aload_n 0, 1) := by decide +kernel
theorem dX7_ways_1 : decode cX7_ways 1 = .ok (.iconst (-1), 1) := by decide +kernel
theorem dX7_ways_2 : decode cX7_ways 2 = .ok (.invokevirtual 97, 3) := by decide +kernel
theorem dX7_ways_5 : decode cX7_ways 5 = .ok (.ifCond .ne 5, 3) := by decide +kernel
theorem dX7_ways_8 : decode cX7_ways 8 = .ok (.lconst 0, 1) := by decide +kernel
theorem dX7_ways_9 : decode cX7_ways 9 = .ok (.lreturn, 1) := by decide +kernel
theorem dX7_ways_10 : decode cX7_ways 10 = .ok (.lconst 1, 1) := by decide +kernel
theorem dX7_ways_11 : decode cX7_ways 11 = .ok (.lstore_n 1, 1) := by decide +kernel
theorem dX7_ways_12 : decode cX7_ways 12 = .ok (.aload_n 0, 1) := by decide +kernel
theorem dX7_ways_13 : decode cX7_ways 13 = .ok (.getfield 87, 3) := by decide +kernel
theorem dX7_ways_16 : decode cX7_ways 16 = .ok (.istore_n 3, 1) := by decide +kernel
theorem dX7_ways_17 : decode cX7_ways 17 = .ok (.iload_n 3, 1) := by decide +kernel
theorem dX7_ways_18 : decode cX7_ways 18 = .ok (.aload_n 0, 1) := by decide +kernel
theorem dX7_ways_19 : decode cX7_ways 19 = .ok (.getfield 7, 3) := by decide +kernel
theorem dX7_ways_22 : decode cX7_ways 22 = .ok (.iconst 0, 1) := by decide +kernel
theorem dX7_ways_23 : decode cX7_ways 23 = .ok (.iaload, 1) := by decide +kernel
theorem dX7_ways_24 : decode cX7_ways 24 = .ok (.if_icmp .ge 19, 3) := by decide +kernel
theorem dX7_ways_27 : decode cX7_ways 27 = .ok (.lload_n 1, 1) := by decide +kernel
theorem dX7_ways_28 : decode cX7_ways 28 = .ok (.aload_n 0, 1) := by decide +kernel
theorem dX7_ways_29 : decode cX7_ways 29 = .ok (.getfield 7, 3) := by decide +kernel
theorem dX7_ways_32 : decode cX7_ways 32 = .ok (.iconst 2, 1) := by decide +kernel
theorem dX7_ways_33 : decode cX7_ways 33 = .ok (.iaload, 1) := by decide +kernel
theorem dX7_ways_34 : decode cX7_ways 34 = .ok (.i2l, 1) := by decide +kernel
theorem dX7_ways_35 : decode cX7_ways 35 = .ok (.lmul, 1) := by decide +kernel
theorem dX7_ways_36 : decode cX7_ways 36 = .ok (.lstore_n 1, 1) := by decide +kernel
theorem dX7_ways_37 : decode cX7_ways 37 = .ok (.iinc 3 1, 3) := by decide +kernel
theorem dX7_ways_40 : decode cX7_ways 40 = .ok (.goto (-23), 3) := by decide +kernel
theorem dX7_ways_43 : decode cX7_ways 43 = .ok (.lload_n 1, 1) := by decide +kernel
theorem dX7_ways_44 : decode cX7_ways 44 = .ok (.lreturn, 1) := by decide +kernel
theorem dX7_isPrime_0 : decode cX7_isPrime 0 = .ok (.iload_n 0, 1) := by decide +kernel
theorem dX7_isPrime_1 : decode cX7_isPrime 1 = .ok (.i2l, 1) := by decide +kernel
theorem dX7_isPrime_2 : decode cX7_isPrime 2 = .ok (.ldc2_w 101, 3) := by decide +kernel
theorem dX7_isPrime_5 : decode cX7_isPrime 5 = .ok (.ldc2_w 103, 3) := by decide +kernel
theorem dX7_isPrime_8 : decode cX7_isPrime 8 = .ok (.invokestatic 57, 3) := by decide +kernel
theorem dX7_isPrime_11 : decode cX7_isPrime 11 = .ok (.ifCond .ne 5, 3) := by decide +kernel
theorem dX7_isPrime_14 : decode cX7_isPrime 14 = .ok (.iconst 0, 1) := by decide +kernel
theorem dX7_isPrime_15 : decode cX7_isPrime 15 = .ok (.ireturn, 1) := by decide +kernel
theorem dX7_isPrime_16 : decode cX7_isPrime 16 = .ok (.iconst 1, 1) := by decide +kernel
theorem dX7_isPrime_17 : decode cX7_isPrime 17 = .ok (.istore_n 1, 1) := by decide +kernel
theorem dX7_isPrime_18 : decode cX7_isPrime 18 = .ok (.iconst 2, 1) := by decide +kernel
theorem dX7_isPrime_19 : decode cX7_isPrime 19 = .ok (.istore_n 2, 1) := by decide +kernel
theorem dX7_isPrime_20 : decode cX7_isPrime 20 = .ok (.iload_n 2, 1) := by decide +kernel
theorem dX7_isPrime_21 : decode cX7_isPrime 21 = .ok (.iload_n 0, 1) := by decide +kernel
theorem dX7_isPrime_22 : decode cX7_isPrime 22 = .ok (.if_icmp .ge 25, 3) := by decide +kernel
theorem dX7_isPrime_25 : decode cX7_isPrime 25 = .ok (.iload_n 1, 1) := by decide +kernel
theorem dX7_isPrime_26 : decode cX7_isPrime 26 = .ok (.ifCond .eq 13, 3) := by decide +kernel
theorem dX7_isPrime_29 : decode cX7_isPrime 29 = .ok (.iload_n 0, 1) := by decide +kernel
theorem dX7_isPrime_30 : decode cX7_isPrime 30 = .ok (.iload_n 2, 1) := by decide +kernel
theorem dX7_isPrime_31 : decode cX7_isPrime 31 = .ok (.irem, 1) := by decide +kernel
theorem dX7_isPrime_32 : decode cX7_isPrime 32 = .ok (.ifCond .eq 7, 3) := by decide +kernel
theorem dX7_isPrime_35 : decode cX7_isPrime 35 = .ok (.iconst 1, 1) := by decide +kernel
theorem dX7_isPrime_36 : decode cX7_isPrime 36 = .ok (.goto 4, 3) := by decide +kernel
theorem dX7_isPrime_39 : decode cX7_isPrime 39 = .ok (.iconst 0, 1) := by decide +kernel
theorem dX7_isPrime_40 : decode cX7_isPrime 40 = .ok (.istore_n 1, 1) := by decide +kernel
theorem dX7_isPrime_41 : decode cX7_isPrime 41 = .ok (.iinc 2 1, 3) := by decide +kernel
theorem dX7_isPrime_44 : decode cX7_isPrime 44 = .ok (.goto (-24), 3) := by decide +kernel
theorem dX7_isPrime_47 : decode cX7_isPrime 47 = .ok (.iload_n 1, 1) := by decide +kernel
theorem dX7_isPrime_48 : decode cX7_isPrime 48 = .ok (.ireturn, 1) := by decide +kernel
theorem dX7_prime_0 : decode cX7_prime 0 = .ok (.iload_n 1, 1) := by decide +kernel
theorem dX7_prime_1 : decode cX7_prime 1 = .ok (.invokestatic 105, 3) := by decide +kernel
theorem dX7_prime_4 : decode cX7_prime 4 = .ok (.ifCond .ne 5, 3) := by decide +kernel
theorem dX7_prime_7 : decode cX7_prime 7 = .ok (.iconst (-1), 1) := by decide +kernel
theorem dX7_prime_8 : decode cX7_prime 8 = .ok (.ireturn, 1) := by decide +kernel
theorem dX7_prime_9 : decode cX7_prime 9 = .ok (.aload_n 0, 1) := by decide +kernel
theorem dX7_prime_10 : decode cX7_prime 10 = .ok (.getfield 7, 3) := by decide +kernel
theorem dX7_prime_13 : decode cX7_prime 13 = .ok (.iconst 2, 1) := by decide +kernel
theorem dX7_prime_14 : decode cX7_prime 14 = .ok (.iaload, 1) := by decide +kernel
theorem dX7_prime_15 : decode cX7_prime 15 = .ok (.istore_n 2, 1) := by decide +kernel
theorem dX7_prime_16 : decode cX7_prime 16 = .ok (.iload_n 2, 1) := by decide +kernel
theorem dX7_prime_17 : decode cX7_prime 17 = .ok (.iload_n 1, 1) := by decide +kernel
theorem dX7_prime_18 : decode cX7_prime 18 = .ok (.if_icmp .ne 6, 3) := by decide +kernel
theorem dX7_prime_21 : decode cX7_prime 21 = .ok (.bipush (-2), 2) := by decide +kernel
theorem dX7_prime_23 : decode cX7_prime 23 = .ok (.ireturn, 1) := by decide +kernel
theorem dX7_prime_24 : decode cX7_prime 24 = .ok (.aload_n 0, 1) := by decide +kernel
theorem dX7_prime_25 : decode cX7_prime 25 = .ok (.getfield 7, 3) := by decide +kernel
theorem dX7_prime_28 : decode cX7_prime 28 = .ok (.iconst 2, 1) := by decide +kernel
theorem dX7_prime_29 : decode cX7_prime 29 = .ok (.iload_n 1, 1) := by decide +kernel
theorem dX7_prime_30 : decode cX7_prime 30 = .ok (.iastore, 1) := by decide +kernel
theorem dX7_prime_31 : decode cX7_prime 31 = .ok (.iconst 4, 1) := by decide +kernel
theorem dX7_prime_32 : decode cX7_prime 32 = .ok (.istore_n 3, 1) := by decide +kernel
theorem dX7_prime_33 : decode cX7_prime 33 = .ok (.iload_n 3, 1) := by decide +kernel
theorem dX7_prime_34 : decode cX7_prime 34 = .ok (.bipush 21, 2) := by decide +kernel
theorem dX7_prime_36 : decode cX7_prime 36 = .ok (.if_icmp .ge 19, 3) := by decide +kernel
theorem dX7_prime_39 : decode cX7_prime 39 = .ok (.aload_n 0, 1) := by decide +kernel
theorem dX7_prime_40 : decode cX7_prime 40 = .ok (.getfield 7, 3) := by decide +kernel
theorem dX7_prime_43 : decode cX7_prime 43 = .ok (.iload_n 3, 1) := by decide +kernel
theorem dX7_prime_44 : decode cX7_prime 44 = .ok (.dup2, 1) := by decide +kernel
theorem dX7_prime_45 : decode cX7_prime 45 = .ok (.iaload, 1) := by decide +kernel
theorem dX7_prime_46 : decode cX7_prime 46 = .ok (.iload_n 1, 1) := by decide +kernel
theorem dX7_prime_47 : decode cX7_prime 47 = .ok (.irem, 1) := by decide +kernel
theorem dX7_prime_48 : decode cX7_prime 48 = .ok (.iastore, 1) := by decide +kernel
theorem dX7_prime_49 : decode cX7_prime 49 = .ok (.iinc 3 1, 3) := by decide +kernel
theorem dX7_prime_52 : decode cX7_prime 52 = .ok (.goto (-19), 3) := by decide +kernel
theorem dX7_prime_55 : decode cX7_prime 55 = .ok (.aload_n 0, 1) := by decide +kernel
theorem dX7_prime_56 : decode cX7_prime 56 = .ok (.iconst 0, 1) := by decide +kernel
theorem dX7_prime_57 : decode cX7_prime 57 = .ok (.putfield 108, 3) := by decide +kernel
theorem dX7_prime_60 : decode cX7_prime 60 = .ok (.iload_n 2, 1) := by decide +kernel
theorem dX7_prime_61 : decode cX7_prime 61 = .ok (.ireturn, 1) := by decide +kernel
theorem dX7_line_0 : decode cX7_line 0 = .ok (.aload_n 0, 1) := by decide +kernel
theorem dX7_line_1 : decode cX7_line 1 = .ok (.iload_n 1, 1) := by decide +kernel
theorem dX7_line_2 : decode cX7_line 2 = .ok (.invokevirtual 111, 3) := by decide +kernel
theorem dX7_line_5 : decode cX7_line 5 = .ok (.ifCond .eq 14, 3) := by decide +kernel
theorem dX7_line_8 : decode cX7_line 8 = .ok (.aload_n 0, 1) := by decide +kernel
theorem dX7_line_9 : decode cX7_line 9 = .ok (.getfield 7, 3) := by decide +kernel
theorem dX7_line_12 : decode cX7_line 12 = .ok (.iconst 4, 1) := by decide +kernel
theorem dX7_line_13 : decode cX7_line 13 = .ok (.iload_n 1, 1) := by decide +kernel
theorem dX7_line_14 : decode cX7_line 14 = .ok (.iadd, 1) := by decide +kernel
theorem dX7_line_15 : decode cX7_line 15 = .ok (.iaload, 1) := by decide +kernel
theorem dX7_line_16 : decode cX7_line 16 = .ok (.goto 4, 3) := by decide +kernel
theorem dX7_line_19 : decode cX7_line 19 = .ok (.iconst (-1), 1) := by decide +kernel
theorem dX7_line_20 : decode cX7_line 20 = .ok (.ireturn, 1) := by decide +kernel
theorem dX7_right_0 : decode cX7_right 0 = .ok (.aload_n 0, 1) := by decide +kernel
theorem dX7_right_1 : decode cX7_right 1 = .ok (.iload_n 1, 1) := by decide +kernel
theorem dX7_right_2 : decode cX7_right 2 = .ok (.invokevirtual 114, 3) := by decide +kernel
theorem dX7_right_5 : decode cX7_right 5 = .ok (.ifCond .eq 15, 3) := by decide +kernel
theorem dX7_right_8 : decode cX7_right 8 = .ok (.aload_n 0, 1) := by decide +kernel
theorem dX7_right_9 : decode cX7_right 9 = .ok (.getfield 7, 3) := by decide +kernel
theorem dX7_right_12 : decode cX7_right 12 = .ok (.bipush 15, 2) := by decide +kernel
theorem dX7_right_14 : decode cX7_right 14 = .ok (.iload_n 1, 1) := by decide +kernel
theorem dX7_right_15 : decode cX7_right 15 = .ok (.iadd, 1) := by decide +kernel
theorem dX7_right_16 : decode cX7_right 16 = .ok (.iaload, 1) := by decide +kernel
theorem dX7_right_17 : decode cX7_right 17 = .ok (.goto 4, 3) := by decide +kernel
theorem dX7_right_20 : decode cX7_right 20 = .ok (.iconst (-1), 1) := by decide +kernel
theorem dX7_right_21 : decode cX7_right 21 = .ok (.ireturn, 1) := by decide +kernel
theorem dX7_entry_0 : decode cX7_entry 0 = .ok (.aload_n 0, 1) := by decide +kernel
theorem dX7_entry_1 : decode cX7_entry 1 = .ok (.iload_n 1, 1) := by decide +kernel
theorem dX7_entry_2 : decode cX7_entry 2 = .ok (.invokevirtual 114, 3) := by decide +kernel
theorem dX7_entry_5 : decode cX7_entry 5 = .ok (.ifCond .eq 26, 3) := by decide +kernel
theorem dX7_entry_8 : decode cX7_entry 8 = .ok (.aload_n 0, 1) := by decide +kernel
theorem dX7_entry_9 : decode cX7_entry 9 = .ok (.iload_n 2, 1) := by decide +kernel
theorem dX7_entry_10 : decode cX7_entry 10 = .ok (.invokevirtual 114, 3) := by decide +kernel
theorem dX7_entry_13 : decode cX7_entry 13 = .ok (.ifCond .eq 18, 3) := by decide +kernel
theorem dX7_entry_16 : decode cX7_entry 16 = .ok (.aload_n 0, 1) := by decide +kernel
theorem dX7_entry_17 : decode cX7_entry 17 = .ok (.aload_n 0, 1) := by decide +kernel
theorem dX7_entry_18 : decode cX7_entry 18 = .ok (.getfield 7, 3) := by decide +kernel
theorem dX7_entry_21 : decode cX7_entry 21 = .ok (.iconst 1, 1) := by decide +kernel
theorem dX7_entry_22 : decode cX7_entry 22 = .ok (.iaload, 1) := by decide +kernel
theorem dX7_entry_23 : decode cX7_entry 23 = .ok (.iload_n 1, 1) := by decide +kernel
theorem dX7_entry_24 : decode cX7_entry 24 = .ok (.iload_n 2, 1) := by decide +kernel
theorem dX7_entry_25 : decode cX7_entry 25 = .ok (.invokevirtual 65, 3) := by decide +kernel
theorem dX7_entry_28 : decode cX7_entry 28 = .ok (.goto 4, 3) := by decide +kernel
theorem dX7_entry_31 : decode cX7_entry 31 = .ok (.iconst (-1), 1) := by decide +kernel
theorem dX7_entry_32 : decode cX7_entry 32 = .ok (.ireturn, 1) := by decide +kernel
theorem dX7_singular_0 : decode cX7_singular 0 = .ok (.iconst 0, 1) := by decide +kernel
theorem dX7_singular_1 : decode cX7_singular 1 = .ok (.istore_n 1, 1) := by decide +kernel
theorem dX7_singular_2 : decode cX7_singular 2 = .ok (.iconst 1, 1) := by decide +kernel
theorem dX7_singular_3 : decode cX7_singular 3 = .ok (.istore_n 2, 1) := by decide +kernel
theorem dX7_singular_4 : decode cX7_singular 4 = .ok (.iload_n 2, 1) := by decide +kernel
theorem dX7_singular_5 : decode cX7_singular 5 = .ok (.aload_n 0, 1) := by decide +kernel
theorem dX7_singular_6 : decode cX7_singular 6 = .ok (.getfield 7, 3) := by decide +kernel
theorem dX7_singular_9 : decode cX7_singular 9 = .ok (.iconst 0, 1) := by decide +kernel
theorem dX7_singular_10 : decode cX7_singular 10 = .ok (.iaload, 1) := by decide +kernel
theorem dX7_singular_11 : decode cX7_singular 11 = .ok (.if_icmp .gt 27, 3) := by decide +kernel
theorem dX7_singular_14 : decode cX7_singular 14 = .ok (.iload_n 1, 1) := by decide +kernel
theorem dX7_singular_15 : decode cX7_singular 15 = .ok (.aload_n 0, 1) := by decide +kernel
theorem dX7_singular_16 : decode cX7_singular 16 = .ok (.iload_n 2, 1) := by decide +kernel
theorem dX7_singular_17 : decode cX7_singular 17 = .ok (.invokevirtual 117, 3) := by decide +kernel
theorem dX7_singular_20 : decode cX7_singular 20 = .ok (.ifCond .ne 9, 3) := by decide +kernel
theorem dX7_singular_23 : decode cX7_singular 23 = .ok (.iconst 1, 1) := by decide +kernel
theorem dX7_singular_24 : decode cX7_singular 24 = .ok (.iload_n 2, 1) := by decide +kernel
theorem dX7_singular_25 : decode cX7_singular 25 = .ok (.ishl, 1) := by decide +kernel
theorem dX7_singular_26 : decode cX7_singular 26 = .ok (.goto 4, 3) := by decide +kernel
theorem dX7_singular_29 : decode cX7_singular 29 = .ok (.iconst 0, 1) := by decide +kernel
theorem dX7_singular_30 : decode cX7_singular 30 = .ok (.ior, 1) := by decide +kernel
theorem dX7_singular_31 : decode cX7_singular 31 = .ok (.istore_n 1, 1) := by decide +kernel
theorem dX7_singular_32 : decode cX7_singular 32 = .ok (.iinc 2 1, 3) := by decide +kernel
theorem dX7_singular_35 : decode cX7_singular 35 = .ok (.goto (-31), 3) := by decide +kernel
theorem dX7_singular_38 : decode cX7_singular 38 = .ok (.iload_n 1, 1) := by decide +kernel
theorem dX7_singular_39 : decode cX7_singular 39 = .ok (.ireturn, 1) := by decide +kernel
theorem dX7_rankOf_0 : decode cX7_rankOf 0 = .ok (.aload_n 0, 1) := by decide +kernel
theorem dX7_rankOf_1 : decode cX7_rankOf 1 = .ok (.iconst (-1), 1) := by decide +kernel
theorem dX7_rankOf_2 : decode cX7_rankOf 2 = .ok (.invokevirtual 97, 3) := by decide +kernel
theorem dX7_rankOf_5 : decode cX7_rankOf 5 = .ok (.istore_n 1, 1) := by decide +kernel
theorem dX7_rankOf_6 : decode cX7_rankOf 6 = .ok (.iload_n 1, 1) := by decide +kernel
theorem dX7_rankOf_7 : decode cX7_rankOf 7 = .ok (.ifCond .ne 10, 3) := by decide +kernel
theorem dX7_rankOf_10 : decode cX7_rankOf 10 = .ok (.aload_n 0, 1) := by decide +kernel
theorem dX7_rankOf_11 : decode cX7_rankOf 11 = .ok (.getfield 87, 3) := by decide +kernel
theorem dX7_rankOf_14 : decode cX7_rankOf 14 = .ok (.ifCond .lt 10, 3) := by decide +kernel
theorem dX7_rankOf_17 : decode cX7_rankOf 17 = .ok (.aload_n 0, 1) := by decide +kernel
theorem dX7_rankOf_18 : decode cX7_rankOf 18 = .ok (.getfield 87, 3) := by decide +kernel
theorem dX7_rankOf_21 : decode cX7_rankOf 21 = .ok (.goto 5, 3) := by decide +kernel
theorem dX7_rankOf_24 : decode cX7_rankOf 24 = .ok (.bipush (-4), 2) := by decide +kernel
theorem dX7_rankOf_26 : decode cX7_rankOf 26 = .ok (.ireturn, 1) := by decide +kernel
theorem dX7_count_0 : decode cX7_count 0 = .ok (.iload_n 1, 1) := by decide +kernel
theorem dX7_count_1 : decode cX7_count 1 = .ok (.tableswitch 99 0 7 #[47, 54, 61, 68, 73, 78, 89, 94], 47) := by decide +kernel
theorem dX7_count_48 : decode cX7_count 48 = .ok (.aload_n 0, 1) := by decide +kernel
theorem dX7_count_49 : decode cX7_count 49 = .ok (.getfield 7, 3) := by decide +kernel
theorem dX7_count_52 : decode cX7_count 52 = .ok (.iconst 0, 1) := by decide +kernel
theorem dX7_count_53 : decode cX7_count 53 = .ok (.iaload, 1) := by decide +kernel
theorem dX7_count_54 : decode cX7_count 54 = .ok (.ireturn, 1) := by decide +kernel
theorem dX7_count_55 : decode cX7_count 55 = .ok (.aload_n 0, 1) := by decide +kernel
theorem dX7_count_56 : decode cX7_count 56 = .ok (.getfield 7, 3) := by decide +kernel
theorem dX7_count_59 : decode cX7_count 59 = .ok (.iconst 1, 1) := by decide +kernel
theorem dX7_count_60 : decode cX7_count 60 = .ok (.iaload, 1) := by decide +kernel
theorem dX7_count_61 : decode cX7_count 61 = .ok (.ireturn, 1) := by decide +kernel
theorem dX7_count_62 : decode cX7_count 62 = .ok (.aload_n 0, 1) := by decide +kernel
theorem dX7_count_63 : decode cX7_count 63 = .ok (.getfield 7, 3) := by decide +kernel
theorem dX7_count_66 : decode cX7_count 66 = .ok (.iconst 2, 1) := by decide +kernel
theorem dX7_count_67 : decode cX7_count 67 = .ok (.iaload, 1) := by decide +kernel
theorem dX7_count_68 : decode cX7_count 68 = .ok (.ireturn, 1) := by decide +kernel
theorem dX7_count_69 : decode cX7_count 69 = .ok (.aload_n 0, 1) := by decide +kernel
theorem dX7_count_70 : decode cX7_count 70 = .ok (.invokevirtual 120, 3) := by decide +kernel
theorem dX7_count_73 : decode cX7_count 73 = .ok (.ireturn, 1) := by decide +kernel
theorem dX7_count_74 : decode cX7_count 74 = .ok (.aload_n 0, 1) := by decide +kernel
theorem dX7_count_75 : decode cX7_count 75 = .ok (.invokevirtual 123, 3) := by decide +kernel
theorem dX7_count_78 : decode cX7_count 78 = .ok (.ireturn, 1) := by decide +kernel
theorem dX7_count_79 : decode cX7_count 79 = .ok (.aload_n 0, 1) := by decide +kernel
theorem dX7_count_80 : decode cX7_count 80 = .ok (.aload_n 0, 1) := by decide +kernel
theorem dX7_count_81 : decode cX7_count 81 = .ok (.getfield 7, 3) := by decide +kernel
theorem dX7_count_84 : decode cX7_count 84 = .ok (.iconst 0, 1) := by decide +kernel
theorem dX7_count_85 : decode cX7_count 85 = .ok (.iaload, 1) := by decide +kernel
theorem dX7_count_86 : decode cX7_count 86 = .ok (.invokevirtual 117, 3) := by decide +kernel
theorem dX7_count_89 : decode cX7_count 89 = .ok (.ireturn, 1) := by decide +kernel
theorem dX7_count_90 : decode cX7_count 90 = .ok (.aload_n 0, 1) := by decide +kernel
theorem dX7_count_91 : decode cX7_count 91 = .ok (.invokevirtual 126, 3) := by decide +kernel
theorem dX7_count_94 : decode cX7_count 94 = .ok (.ireturn, 1) := by decide +kernel
theorem dX7_count_95 : decode cX7_count 95 = .ok (.aload_n 0, 1) := by decide +kernel
theorem dX7_count_96 : decode cX7_count 96 = .ok (.getfield 108, 3) := by decide +kernel
theorem dX7_count_99 : decode cX7_count 99 = .ok (.ireturn, 1) := by decide +kernel
theorem dX7_count_100 : decode cX7_count 100 = .ok (.iconst (-1), 1) := by decide +kernel
theorem dX7_count_101 : decode cX7_count 101 = .ok (.ireturn, 1) := by decide +kernel
theorem dX7_type_0 : decode cX7_type 0 = .ok (.iload_n 1, 1) := by decide +kernel
theorem dX7_type_1 : decode cX7_type 1 = .ok (.i2l, 1) := by decide +kernel
theorem dX7_type_2 : decode cX7_type 2 = .ok (.ldc2_w 129, 3) := by decide +kernel
theorem dX7_type_5 : decode cX7_type 5 = .ok (.ldc2_w 131, 3) := by decide +kernel
theorem dX7_type_8 : decode cX7_type 8 = .ok (.invokestatic 57, 3) := by decide +kernel
theorem dX7_type_11 : decode cX7_type 11 = .ok (.ifCond .ne 5, 3) := by decide +kernel
theorem dX7_type_14 : decode cX7_type 14 = .ok (.iconst (-1), 1) := by decide +kernel
theorem dX7_type_15 : decode cX7_type 15 = .ok (.ireturn, 1) := by decide +kernel
theorem dX7_type_16 : decode cX7_type 16 = .ok (.aload_n 0, 1) := by decide +kernel
theorem dX7_type_17 : decode cX7_type 17 = .ok (.getfield 133, 3) := by decide +kernel
theorem dX7_type_20 : decode cX7_type 20 = .ok (.bipush 70, 2) := by decide +kernel
theorem dX7_type_22 : decode cX7_type 22 = .ok (.if_icmp .ne 6, 3) := by decide +kernel
theorem dX7_type_25 : decode cX7_type 25 = .ok (.bipush (-3), 2) := by decide +kernel
theorem dX7_type_27 : decode cX7_type 27 = .ok (.ireturn, 1) := by decide +kernel
theorem dX7_type_28 : decode cX7_type 28 = .ok (.aload_n 0, 1) := by decide +kernel
theorem dX7_type_29 : decode cX7_type 29 = .ok (.getfield 19, 3) := by decide +kernel
theorem dX7_type_32 : decode cX7_type 32 = .ok (.aload_n 0, 1) := by decide +kernel
theorem dX7_type_33 : decode cX7_type 33 = .ok (.getfield 133, 3) := by decide +kernel
theorem dX7_type_36 : decode cX7_type 36 = .ok (.iload_n 1, 1) := by decide +kernel
theorem dX7_type_37 : decode cX7_type 37 = .ok (.iastore, 1) := by decide +kernel
theorem dX7_type_38 : decode cX7_type 38 = .ok (.aload_n 0, 1) := by decide +kernel
theorem dX7_type_39 : decode cX7_type 39 = .ok (.dup, 1) := by decide +kernel
theorem dX7_type_40 : decode cX7_type 40 = .ok (.getfield 133, 3) := by decide +kernel
theorem dX7_type_43 : decode cX7_type 43 = .ok (.iconst 1, 1) := by decide +kernel
theorem dX7_type_44 : decode cX7_type 44 = .ok (.iadd, 1) := by decide +kernel
theorem dX7_type_45 : decode cX7_type 45 = .ok (.putfield 133, 3) := by decide +kernel
theorem dX7_type_48 : decode cX7_type 48 = .ok (.aload_n 0, 1) := by decide +kernel
theorem dX7_type_49 : decode cX7_type 49 = .ok (.getfield 133, 3) := by decide +kernel
theorem dX7_type_52 : decode cX7_type 52 = .ok (.ireturn, 1) := by decide +kernel
theorem dX7_here_0 : decode cX7_here 0 = .ok (.aload_n 0, 1) := by decide +kernel
theorem dX7_here_1 : decode cX7_here 1 = .ok (.getfield 136, 3) := by decide +kernel
theorem dX7_here_4 : decode cX7_here 4 = .ok (.aload_n 0, 1) := by decide +kernel
theorem dX7_here_5 : decode cX7_here 5 = .ok (.getfield 133, 3) := by decide +kernel
theorem dX7_here_8 : decode cX7_here 8 = .ok (.if_icmp .ge 30, 3) := by decide +kernel
theorem dX7_here_11 : decode cX7_here 11 = .ok (.aload_n 0, 1) := by decide +kernel
theorem dX7_here_12 : decode cX7_here 12 = .ok (.getfield 19, 3) := by decide +kernel
theorem dX7_here_15 : decode cX7_here 15 = .ok (.aload_n 0, 1) := by decide +kernel
theorem dX7_here_16 : decode cX7_here 16 = .ok (.getfield 136, 3) := by decide +kernel
theorem dX7_here_19 : decode cX7_here 19 = .ok (.iaload, 1) := by decide +kernel
theorem dX7_here_20 : decode cX7_here 20 = .ok (.bipush 32, 2) := by decide +kernel
theorem dX7_here_22 : decode cX7_here 22 = .ok (.if_icmp .ne 16, 3) := by decide +kernel
theorem dX7_here_25 : decode cX7_here 25 = .ok (.aload_n 0, 1) := by decide +kernel
theorem dX7_here_26 : decode cX7_here 26 = .ok (.dup, 1) := by decide +kernel
theorem dX7_here_27 : decode cX7_here 27 = .ok (.getfield 136, 3) := by decide +kernel
theorem dX7_here_30 : decode cX7_here 30 = .ok (.iconst 1, 1) := by decide +kernel
theorem dX7_here_31 : decode cX7_here 31 = .ok (.iadd, 1) := by decide +kernel
theorem dX7_here_32 : decode cX7_here 32 = .ok (.putfield 136, 3) := by decide +kernel
theorem dX7_here_35 : decode cX7_here 35 = .ok (.goto (-35), 3) := by decide +kernel
theorem dX7_here_38 : decode cX7_here 38 = .ok (.aload_n 0, 1) := by decide +kernel
theorem dX7_here_39 : decode cX7_here 39 = .ok (.getfield 136, 3) := by decide +kernel
theorem dX7_here_42 : decode cX7_here 42 = .ok (.aload_n 0, 1) := by decide +kernel
theorem dX7_here_43 : decode cX7_here 43 = .ok (.getfield 133, 3) := by decide +kernel
theorem dX7_here_46 : decode cX7_here 46 = .ok (.if_icmp .ge 15, 3) := by decide +kernel
theorem dX7_here_49 : decode cX7_here 49 = .ok (.aload_n 0, 1) := by decide +kernel
theorem dX7_here_50 : decode cX7_here 50 = .ok (.getfield 19, 3) := by decide +kernel
theorem dX7_here_53 : decode cX7_here 53 = .ok (.aload_n 0, 1) := by decide +kernel
theorem dX7_here_54 : decode cX7_here 54 = .ok (.getfield 136, 3) := by decide +kernel
theorem dX7_here_57 : decode cX7_here 57 = .ok (.iaload, 1) := by decide +kernel
theorem dX7_here_58 : decode cX7_here 58 = .ok (.goto 4, 3) := by decide +kernel
theorem dX7_here_61 : decode cX7_here 61 = .ok (.iconst 0, 1) := by decide +kernel
theorem dX7_here_62 : decode cX7_here 62 = .ok (.ireturn, 1) := by decide +kernel
theorem dX7_has_0 : decode cX7_has 0 = .ok (.aload_n 0, 1) := by decide +kernel
theorem dX7_has_1 : decode cX7_has 1 = .ok (.invokevirtual 139, 3) := by decide +kernel
theorem dX7_has_4 : decode cX7_has 4 = .ok (.iload_n 1, 1) := by decide +kernel
theorem dX7_has_5 : decode cX7_has 5 = .ok (.if_icmp .eq 5, 3) := by decide +kernel
theorem dX7_has_8 : decode cX7_has 8 = .ok (.iconst 0, 1) := by decide +kernel
theorem dX7_has_9 : decode cX7_has 9 = .ok (.ireturn, 1) := by decide +kernel
theorem dX7_has_10 : decode cX7_has 10 = .ok (.aload_n 0, 1) := by decide +kernel
theorem dX7_has_11 : decode cX7_has 11 = .ok (.dup, 1) := by decide +kernel
theorem dX7_has_12 : decode cX7_has 12 = .ok (.getfield 136, 3) := by decide +kernel
theorem dX7_has_15 : decode cX7_has 15 = .ok (.iconst 1, 1) := by decide +kernel
theorem dX7_has_16 : decode cX7_has 16 = .ok (.iadd, 1) := by decide +kernel
theorem dX7_has_17 : decode cX7_has 17 = .ok (.putfield 136, 3) := by decide +kernel
theorem dX7_has_20 : decode cX7_has 20 = .ok (.iconst 1, 1) := by decide +kernel
theorem dX7_has_21 : decode cX7_has 21 = .ok (.ireturn, 1) := by decide +kernel
theorem dX7_number_0 : decode cX7_number 0 = .ok (.aload_n 0, 1) := by decide +kernel
theorem dX7_number_1 : decode cX7_number 1 = .ok (.invokevirtual 139, 3) := by decide +kernel
theorem dX7_number_4 : decode cX7_number 4 = .ok (.i2l, 1) := by decide +kernel
theorem dX7_number_5 : decode cX7_number 5 = .ok (.ldc2_w 142, 3) := by decide +kernel
theorem dX7_number_8 : decode cX7_number 8 = .ok (.ldc2_w 144, 3) := by decide +kernel
theorem dX7_number_11 : decode cX7_number 11 = .ok (.invokestatic 57, 3) := by decide +kernel
theorem dX7_number_14 : decode cX7_number 14 = .ok (.ifCond .ne 5, 3) := by decide +kernel
theorem dX7_number_17 : decode cX7_number 17 = .ok (.iconst (-1), 1) := by decide +kernel
theorem dX7_number_18 : decode cX7_number 18 = .ok (.ireturn, 1) := by decide +kernel
theorem dX7_number_19 : decode cX7_number 19 = .ok (.aload_n 0, 1) := by decide +kernel
theorem dX7_number_20 : decode cX7_number 20 = .ok (.getfield 136, 3) := by decide +kernel
theorem dX7_number_23 : decode cX7_number 23 = .ok (.istore_n 1, 1) := by decide +kernel
theorem dX7_number_24 : decode cX7_number 24 = .ok (.aload_n 0, 1) := by decide +kernel
theorem dX7_number_25 : decode cX7_number 25 = .ok (.getfield 19, 3) := by decide +kernel
theorem dX7_number_28 : decode cX7_number 28 = .ok (.aload_n 0, 1) := by decide +kernel
theorem dX7_number_29 : decode cX7_number 29 = .ok (.getfield 136, 3) := by decide +kernel
theorem dX7_number_32 : decode cX7_number 32 = .ok (.iaload, 1) := by decide +kernel
theorem dX7_number_33 : decode cX7_number 33 = .ok (.bipush 48, 2) := by decide +kernel
theorem dX7_number_35 : decode cX7_number 35 = .ok (.isub, 1) := by decide +kernel
theorem dX7_number_36 : decode cX7_number 36 = .ok (.istore_n 2, 1) := by decide +kernel
theorem dX7_number_37 : decode cX7_number 37 = .ok (.aload_n 0, 1) := by decide +kernel
theorem dX7_number_38 : decode cX7_number 38 = .ok (.dup, 1) := by decide +kernel
theorem dX7_number_39 : decode cX7_number 39 = .ok (.getfield 136, 3) := by decide +kernel
theorem dX7_number_42 : decode cX7_number 42 = .ok (.iconst 1, 1) := by decide +kernel
theorem dX7_number_43 : decode cX7_number 43 = .ok (.iadd, 1) := by decide +kernel
theorem dX7_number_44 : decode cX7_number 44 = .ok (.putfield 136, 3) := by decide +kernel
theorem dX7_number_47 : decode cX7_number 47 = .ok (.aload_n 0, 1) := by decide +kernel
theorem dX7_number_48 : decode cX7_number 48 = .ok (.getfield 136, 3) := by decide +kernel
theorem dX7_number_51 : decode cX7_number 51 = .ok (.aload_n 0, 1) := by decide +kernel
theorem dX7_number_52 : decode cX7_number 52 = .ok (.getfield 133, 3) := by decide +kernel
theorem dX7_number_55 : decode cX7_number 55 = .ok (.if_icmp .ge 53, 3) := by decide +kernel
theorem dX7_number_58 : decode cX7_number 58 = .ok (.aload_n 0, 1) := by decide +kernel
theorem dX7_number_59 : decode cX7_number 59 = .ok (.getfield 19, 3) := by decide +kernel
theorem dX7_number_62 : decode cX7_number 62 = .ok (.aload_n 0, 1) := by decide +kernel
theorem dX7_number_63 : decode cX7_number 63 = .ok (.getfield 136, 3) := by decide +kernel
theorem dX7_number_66 : decode cX7_number 66 = .ok (.iaload, 1) := by decide +kernel
theorem dX7_number_67 : decode cX7_number 67 = .ok (.i2l, 1) := by decide +kernel
theorem dX7_number_68 : decode cX7_number 68 = .ok (.ldc2_w 142, 3) := by decide +kernel
theorem dX7_number_71 : decode cX7_number 71 = .ok (.ldc2_w 144, 3) := by decide +kernel
theorem dX7_number_74 : decode cX7_number 74 = .ok (.invokestatic 57, 3) := by decide +kernel
theorem dX7_number_77 : decode cX7_number 77 = .ok (.ifCond .eq 31, 3) := by decide +kernel
theorem dX7_number_80 : decode cX7_number 80 = .ok (.bipush 10, 2) := by decide +kernel
theorem dX7_number_82 : decode cX7_number 82 = .ok (.iload_n 2, 1) := by decide +kernel
theorem dX7_number_83 : decode cX7_number 83 = .ok (.imul, 1) := by decide +kernel
theorem dX7_number_84 : decode cX7_number 84 = .ok (.aload_n 0, 1) := by decide +kernel
theorem dX7_number_85 : decode cX7_number 85 = .ok (.getfield 19, 3) := by decide +kernel
theorem dX7_number_88 : decode cX7_number 88 = .ok (.aload_n 0, 1) := by decide +kernel
theorem dX7_number_89 : decode cX7_number 89 = .ok (.getfield 136, 3) := by decide +kernel
theorem dX7_number_92 : decode cX7_number 92 = .ok (.iaload, 1) := by decide +kernel
theorem dX7_number_93 : decode cX7_number 93 = .ok (.iadd, 1) := by decide +kernel
theorem dX7_number_94 : decode cX7_number 94 = .ok (.bipush 48, 2) := by decide +kernel
theorem dX7_number_96 : decode cX7_number 96 = .ok (.isub, 1) := by decide +kernel
theorem dX7_number_97 : decode cX7_number 97 = .ok (.istore_n 2, 1) := by decide +kernel
theorem dX7_number_98 : decode cX7_number 98 = .ok (.aload_n 0, 1) := by decide +kernel
theorem dX7_number_99 : decode cX7_number 99 = .ok (.dup, 1) := by decide +kernel
theorem dX7_number_100 : decode cX7_number 100 = .ok (.getfield 136, 3) := by decide +kernel
theorem dX7_number_103 : decode cX7_number 103 = .ok (.iconst 1, 1) := by decide +kernel
theorem dX7_number_104 : decode cX7_number 104 = .ok (.iadd, 1) := by decide +kernel
theorem dX7_number_105 : decode cX7_number 105 = .ok (.putfield 136, 3) := by decide +kernel
theorem dX7_number_108 : decode cX7_number 108 = .ok (.aload_n 0, 1) := by decide +kernel
theorem dX7_number_109 : decode cX7_number 109 = .ok (.iload_n 2, 1) := by decide +kernel
theorem dX7_number_110 : decode cX7_number 110 = .ok (.i2l, 1) := by decide +kernel
theorem dX7_number_111 : decode cX7_number 111 = .ok (.invokevirtual 146, 3) := by decide +kernel
theorem dX7_number_114 : decode cX7_number 114 = .ok (.ifCond .ne 10, 3) := by decide +kernel
theorem dX7_number_117 : decode cX7_number 117 = .ok (.aload_n 0, 1) := by decide +kernel
theorem dX7_number_118 : decode cX7_number 118 = .ok (.iload_n 1, 1) := by decide +kernel
theorem dX7_number_119 : decode cX7_number 119 = .ok (.putfield 136, 3) := by decide +kernel
theorem dX7_number_122 : decode cX7_number 122 = .ok (.iconst (-1), 1) := by decide +kernel
theorem dX7_number_123 : decode cX7_number 123 = .ok (.ireturn, 1) := by decide +kernel
theorem dX7_number_124 : decode cX7_number 124 = .ok (.iload_n 2, 1) := by decide +kernel
theorem dX7_number_125 : decode cX7_number 125 = .ok (.ireturn, 1) := by decide +kernel
theorem dX7_kindBy_0 : decode cX7_kindBy 0 = .ok (.iload_n 0, 1) := by decide +kernel
theorem dX7_kindBy_1 : decode cX7_kindBy 1 = .ok (.bipush 115, 2) := by decide +kernel
theorem dX7_kindBy_3 : decode cX7_kindBy 3 = .ok (.if_icmp .ne 7, 3) := by decide +kernel
theorem dX7_kindBy_6 : decode cX7_kindBy 6 = .ok (.iconst 0, 1) := by decide +kernel
theorem dX7_kindBy_7 : decode cX7_kindBy 7 = .ok (.goto 44, 3) := by decide +kernel
theorem dX7_kindBy_10 : decode cX7_kindBy 10 = .ok (.iload_n 0, 1) := by decide +kernel
theorem dX7_kindBy_11 : decode cX7_kindBy 11 = .ok (.bipush 98, 2) := by decide +kernel
theorem dX7_kindBy_13 : decode cX7_kindBy 13 = .ok (.if_icmp .ne 7, 3) := by decide +kernel
theorem dX7_kindBy_16 : decode cX7_kindBy 16 = .ok (.iconst 1, 1) := by decide +kernel
theorem dX7_kindBy_17 : decode cX7_kindBy 17 = .ok (.goto 34, 3) := by decide +kernel
theorem dX7_kindBy_20 : decode cX7_kindBy 20 = .ok (.iload_n 0, 1) := by decide +kernel
theorem dX7_kindBy_21 : decode cX7_kindBy 21 = .ok (.bipush 101, 2) := by decide +kernel
theorem dX7_kindBy_23 : decode cX7_kindBy 23 = .ok (.if_icmp .ne 7, 3) := by decide +kernel
theorem dX7_kindBy_26 : decode cX7_kindBy 26 = .ok (.iconst 2, 1) := by decide +kernel
theorem dX7_kindBy_27 : decode cX7_kindBy 27 = .ok (.goto 24, 3) := by decide +kernel
theorem dX7_kindBy_30 : decode cX7_kindBy 30 = .ok (.iload_n 0, 1) := by decide +kernel
theorem dX7_kindBy_31 : decode cX7_kindBy 31 = .ok (.bipush 114, 2) := by decide +kernel
theorem dX7_kindBy_33 : decode cX7_kindBy 33 = .ok (.if_icmp .ne 7, 3) := by decide +kernel
theorem dX7_kindBy_36 : decode cX7_kindBy 36 = .ok (.iconst 3, 1) := by decide +kernel
theorem dX7_kindBy_37 : decode cX7_kindBy 37 = .ok (.goto 14, 3) := by decide +kernel
theorem dX7_kindBy_40 : decode cX7_kindBy 40 = .ok (.iload_n 0, 1) := by decide +kernel
theorem dX7_kindBy_41 : decode cX7_kindBy 41 = .ok (.bipush 110, 2) := by decide +kernel
theorem dX7_kindBy_43 : decode cX7_kindBy 43 = .ok (.if_icmp .ne 7, 3) := by decide +kernel
theorem dX7_kindBy_46 : decode cX7_kindBy 46 = .ok (.iconst 4, 1) := by decide +kernel
theorem dX7_kindBy_47 : decode cX7_kindBy 47 = .ok (.goto 4, 3) := by decide +kernel
theorem dX7_kindBy_50 : decode cX7_kindBy 50 = .ok (.iconst (-1), 1) := by decide +kernel
theorem dX7_kindBy_51 : decode cX7_kindBy 51 = .ok (.ireturn, 1) := by decide +kernel
theorem dX7_numbers_0 : decode cX7_numbers 0 = .ok (.iconst 0, 1) := by decide +kernel
theorem dX7_numbers_1 : decode cX7_numbers 1 = .ok (.istore_n 3, 1) := by decide +kernel
theorem dX7_numbers_2 : decode cX7_numbers 2 = .ok (.iconst 1, 1) := by decide +kernel
theorem dX7_numbers_3 : decode cX7_numbers 3 = .ok (.istore 4, 2) := by decide +kernel
theorem dX7_numbers_5 : decode cX7_numbers 5 = .ok (.iload 4, 2) := by decide +kernel
theorem dX7_numbers_7 : decode cX7_numbers 7 = .ok (.ifCond .eq 53, 3) := by decide +kernel
theorem dX7_numbers_10 : decode cX7_numbers 10 = .ok (.aload_n 0, 1) := by decide +kernel
theorem dX7_numbers_11 : decode cX7_numbers 11 = .ok (.invokevirtual 150, 3) := by decide +kernel
theorem dX7_numbers_14 : decode cX7_numbers 14 = .ok (.istore 5, 2) := by decide +kernel
theorem dX7_numbers_16 : decode cX7_numbers 16 = .ok (.iload 5, 2) := by decide +kernel
theorem dX7_numbers_18 : decode cX7_numbers 18 = .ok (.ifCond .ge 5, 3) := by decide +kernel
theorem dX7_numbers_21 : decode cX7_numbers 21 = .ok (.iconst (-1), 1) := by decide +kernel
theorem dX7_numbers_22 : decode cX7_numbers 22 = .ok (.ireturn, 1) := by decide +kernel
theorem dX7_numbers_23 : decode cX7_numbers 23 = .ok (.aload_n 0, 1) := by decide +kernel
theorem dX7_numbers_24 : decode cX7_numbers 24 = .ok (.getfield 22, 3) := by decide +kernel
theorem dX7_numbers_27 : decode cX7_numbers 27 = .ok (.iload_n 1, 1) := by decide +kernel
theorem dX7_numbers_28 : decode cX7_numbers 28 = .ok (.iload_n 3, 1) := by decide +kernel
theorem dX7_numbers_29 : decode cX7_numbers 29 = .ok (.iadd, 1) := by decide +kernel
theorem dX7_numbers_30 : decode cX7_numbers 30 = .ok (.iload 5, 2) := by decide +kernel
theorem dX7_numbers_32 : decode cX7_numbers 32 = .ok (.iastore, 1) := by decide +kernel
theorem dX7_numbers_33 : decode cX7_numbers 33 = .ok (.iinc 3 1, 3) := by decide +kernel
theorem dX7_numbers_36 : decode cX7_numbers 36 = .ok (.iload_n 3, 1) := by decide +kernel
theorem dX7_numbers_37 : decode cX7_numbers 37 = .ok (.iload_n 2, 1) := by decide +kernel
theorem dX7_numbers_38 : decode cX7_numbers 38 = .ok (.if_icmp .ge 16, 3) := by decide +kernel
theorem dX7_numbers_41 : decode cX7_numbers 41 = .ok (.aload_n 0, 1) := by decide +kernel
theorem dX7_numbers_42 : decode cX7_numbers 42 = .ok (.bipush 44, 2) := by decide +kernel
theorem dX7_numbers_44 : decode cX7_numbers 44 = .ok (.invokevirtual 153, 3) := by decide +kernel
theorem dX7_numbers_47 : decode cX7_numbers 47 = .ok (.ifCond .eq 7, 3) := by decide +kernel
theorem dX7_numbers_50 : decode cX7_numbers 50 = .ok (.iconst 1, 1) := by decide +kernel
theorem dX7_numbers_51 : decode cX7_numbers 51 = .ok (.goto 4, 3) := by decide +kernel
theorem dX7_numbers_54 : decode cX7_numbers 54 = .ok (.iconst 0, 1) := by decide +kernel
theorem dX7_numbers_55 : decode cX7_numbers 55 = .ok (.istore 4, 2) := by decide +kernel
theorem dX7_numbers_57 : decode cX7_numbers 57 = .ok (.goto (-52), 3) := by decide +kernel
theorem dX7_numbers_60 : decode cX7_numbers 60 = .ok (.iload_n 3, 1) := by decide +kernel
theorem dX7_numbers_61 : decode cX7_numbers 61 = .ok (.ireturn, 1) := by decide +kernel
theorem dX7_fault_0 : decode cX7_fault 0 = .ok (.aload_n 0, 1) := by decide +kernel
theorem dX7_fault_1 : decode cX7_fault 1 = .ok (.invokevirtual 139, 3) := by decide +kernel
theorem dX7_fault_4 : decode cX7_fault 4 = .ok (.ifCond .ne 7, 3) := by decide +kernel
theorem dX7_fault_7 : decode cX7_fault 7 = .ok (.iconst 1, 1) := by decide +kernel
theorem dX7_fault_8 : decode cX7_fault 8 = .ok (.goto 4, 3) := by decide +kernel
theorem dX7_fault_11 : decode cX7_fault 11 = .ok (.iconst 0, 1) := by decide +kernel
theorem dX7_fault_12 : decode cX7_fault 12 = .ok (.istore_n 1, 1) := by decide +kernel
theorem dX7_fault_13 : decode cX7_fault 13 = .ok (.bipush (-20), 2) := by decide +kernel
theorem dX7_fault_15 : decode cX7_fault 15 = .ok (.iload_n 1, 1) := by decide +kernel
theorem dX7_fault_16 : decode cX7_fault 16 = .ok (.ifCond .eq 10, 3) := by decide +kernel
theorem dX7_fault_19 : decode cX7_fault 19 = .ok (.aload_n 0, 1) := by decide +kernel
theorem dX7_fault_20 : decode cX7_fault 20 = .ok (.getfield 133, 3) := by decide +kernel
theorem dX7_fault_23 : decode cX7_fault 23 = .ok (.goto 7, 3) := by decide +kernel
theorem dX7_fault_26 : decode cX7_fault 26 = .ok (.aload_n 0, 1) := by decide +kernel
theorem dX7_fault_27 : decode cX7_fault 27 = .ok (.getfield 136, 3) := by decide +kernel
theorem dX7_fault_30 : decode cX7_fault 30 = .ok (.isub, 1) := by decide +kernel
theorem dX7_fault_31 : decode cX7_fault 31 = .ok (.istore_n 2, 1) := by decide +kernel
theorem dX7_fault_32 : decode cX7_fault 32 = .ok (.aload_n 0, 1) := by decide +kernel
theorem dX7_fault_33 : decode cX7_fault 33 = .ok (.iconst 0, 1) := by decide +kernel
theorem dX7_fault_34 : decode cX7_fault 34 = .ok (.putfield 133, 3) := by decide +kernel
theorem dX7_fault_37 : decode cX7_fault 37 = .ok (.iload_n 2, 1) := by decide +kernel
theorem dX7_fault_38 : decode cX7_fault 38 = .ok (.ireturn, 1) := by decide +kernel
theorem dX7_matrix_0 : decode cX7_matrix 0 = .ok (.aload_n 0, 1) := by decide +kernel
theorem dX7_matrix_1 : decode cX7_matrix 1 = .ok (.iconst 0, 1) := by decide +kernel
theorem dX7_matrix_2 : decode cX7_matrix 2 = .ok (.putfield 136, 3) := by decide +kernel
theorem dX7_matrix_5 : decode cX7_matrix 5 = .ok (.aload_n 0, 1) := by decide +kernel
theorem dX7_matrix_6 : decode cX7_matrix 6 = .ok (.invokevirtual 139, 3) := by decide +kernel
theorem dX7_matrix_9 : decode cX7_matrix 9 = .ok (.invokestatic 156, 3) := by decide +kernel
theorem dX7_matrix_12 : decode cX7_matrix 12 = .ok (.istore_n 1, 1) := by decide +kernel
theorem dX7_matrix_13 : decode cX7_matrix 13 = .ok (.iload_n 1, 1) := by decide +kernel
theorem dX7_matrix_14 : decode cX7_matrix 14 = .ok (.ifCond .ge 8, 3) := by decide +kernel
theorem dX7_matrix_17 : decode cX7_matrix 17 = .ok (.aload_n 0, 1) := by decide +kernel
theorem dX7_matrix_18 : decode cX7_matrix 18 = .ok (.invokevirtual 159, 3) := by decide +kernel
theorem dX7_matrix_21 : decode cX7_matrix 21 = .ok (.ireturn, 1) := by decide +kernel
theorem dX7_matrix_22 : decode cX7_matrix 22 = .ok (.aload_n 0, 1) := by decide +kernel
theorem dX7_matrix_23 : decode cX7_matrix 23 = .ok (.dup, 1) := by decide +kernel
theorem dX7_matrix_24 : decode cX7_matrix 24 = .ok (.getfield 136, 3) := by decide +kernel
theorem dX7_matrix_27 : decode cX7_matrix 27 = .ok (.iconst 1, 1) := by decide +kernel
theorem dX7_matrix_28 : decode cX7_matrix 28 = .ok (.iadd, 1) := by decide +kernel
theorem dX7_matrix_29 : decode cX7_matrix 29 = .ok (.putfield 136, 3) := by decide +kernel
theorem dX7_matrix_32 : decode cX7_matrix 32 = .ok (.aload_n 0, 1) := by decide +kernel
theorem dX7_matrix_33 : decode cX7_matrix 33 = .ok (.iconst 0, 1) := by decide +kernel
theorem dX7_matrix_34 : decode cX7_matrix 34 = .ok (.bipush 11, 2) := by decide +kernel
theorem dX7_matrix_36 : decode cX7_matrix 36 = .ok (.invokevirtual 162, 3) := by decide +kernel
theorem dX7_matrix_39 : decode cX7_matrix 39 = .ok (.istore_n 2, 1) := by decide +kernel
theorem dX7_matrix_40 : decode cX7_matrix 40 = .ok (.iload_n 2, 1) := by decide +kernel
theorem dX7_matrix_41 : decode cX7_matrix 41 = .ok (.ifCond .lt 9, 3) := by decide +kernel
theorem dX7_matrix_44 : decode cX7_matrix 44 = .ok (.iload_n 2, 1) := by decide +kernel
theorem dX7_matrix_45 : decode cX7_matrix 45 = .ok (.iconst 2, 1) := by decide +kernel
theorem dX7_matrix_46 : decode cX7_matrix 46 = .ok (.irem, 1) := by decide +kernel
theorem dX7_matrix_47 : decode cX7_matrix 47 = .ok (.ifCond .ne 8, 3) := by decide +kernel
theorem dX7_matrix_50 : decode cX7_matrix 50 = .ok (.aload_n 0, 1) := by decide +kernel
theorem dX7_matrix_51 : decode cX7_matrix 51 = .ok (.invokevirtual 159, 3) := by decide +kernel
theorem dX7_matrix_54 : decode cX7_matrix 54 = .ok (.ireturn, 1) := by decide +kernel
theorem dX7_matrix_55 : decode cX7_matrix 55 = .ok (.iload_n 2, 1) := by decide +kernel
theorem dX7_matrix_56 : decode cX7_matrix 56 = .ok (.iconst 1, 1) := by decide +kernel
theorem dX7_matrix_57 : decode cX7_matrix 57 = .ok (.iadd, 1) := by decide +kernel
theorem dX7_matrix_58 : decode cX7_matrix 58 = .ok (.iconst 2, 1) := by decide +kernel
theorem dX7_matrix_59 : decode cX7_matrix 59 = .ok (.idiv, 1) := by decide +kernel
theorem dX7_matrix_60 : decode cX7_matrix 60 = .ok (.istore_n 3, 1) := by decide +kernel
theorem dX7_matrix_61 : decode cX7_matrix 61 = .ok (.iconst 0, 1) := by decide +kernel
theorem dX7_matrix_62 : decode cX7_matrix 62 = .ok (.istore 4, 2) := by decide +kernel
theorem dX7_matrix_64 : decode cX7_matrix 64 = .ok (.aload_n 0, 1) := by decide +kernel
theorem dX7_matrix_65 : decode cX7_matrix 65 = .ok (.bipush 61, 2) := by decide +kernel
theorem dX7_matrix_67 : decode cX7_matrix 67 = .ok (.invokevirtual 153, 3) := by decide +kernel
theorem dX7_matrix_70 : decode cX7_matrix 70 = .ok (.ifCond .eq 23, 3) := by decide +kernel
theorem dX7_matrix_73 : decode cX7_matrix 73 = .ok (.aload_n 0, 1) := by decide +kernel
theorem dX7_matrix_74 : decode cX7_matrix 74 = .ok (.bipush 11, 2) := by decide +kernel
theorem dX7_matrix_76 : decode cX7_matrix 76 = .ok (.iload_n 3, 1) := by decide +kernel
theorem dX7_matrix_77 : decode cX7_matrix 77 = .ok (.invokevirtual 162, 3) := by decide +kernel
theorem dX7_matrix_80 : decode cX7_matrix 80 = .ok (.istore 4, 2) := by decide +kernel
theorem dX7_matrix_82 : decode cX7_matrix 82 = .ok (.iload 4, 2) := by decide +kernel
theorem dX7_matrix_84 : decode cX7_matrix 84 = .ok (.iload_n 3, 1) := by decide +kernel
theorem dX7_matrix_85 : decode cX7_matrix 85 = .ok (.if_icmp .eq 8, 3) := by decide +kernel
theorem dX7_matrix_88 : decode cX7_matrix 88 = .ok (.aload_n 0, 1) := by decide +kernel
theorem dX7_matrix_89 : decode cX7_matrix 89 = .ok (.invokevirtual 159, 3) := by decide +kernel
theorem dX7_matrix_92 : decode cX7_matrix 92 = .ok (.ireturn, 1) := by decide +kernel
theorem dX7_matrix_93 : decode cX7_matrix 93 = .ok (.aload_n 0, 1) := by decide +kernel
theorem dX7_matrix_94 : decode cX7_matrix 94 = .ok (.invokevirtual 139, 3) := by decide +kernel
theorem dX7_matrix_97 : decode cX7_matrix 97 = .ok (.ifCond .eq 8, 3) := by decide +kernel
theorem dX7_matrix_100 : decode cX7_matrix 100 = .ok (.aload_n 0, 1) := by decide +kernel
theorem dX7_matrix_101 : decode cX7_matrix 101 = .ok (.invokevirtual 159, 3) := by decide +kernel
theorem dX7_matrix_104 : decode cX7_matrix 104 = .ok (.ireturn, 1) := by decide +kernel
theorem dX7_matrix_105 : decode cX7_matrix 105 = .ok (.aload_n 0, 1) := by decide +kernel
theorem dX7_matrix_106 : decode cX7_matrix 106 = .ok (.getfield 7, 3) := by decide +kernel
theorem dX7_matrix_109 : decode cX7_matrix 109 = .ok (.iconst 0, 1) := by decide +kernel
theorem dX7_matrix_110 : decode cX7_matrix 110 = .ok (.iload_n 3, 1) := by decide +kernel
theorem dX7_matrix_111 : decode cX7_matrix 111 = .ok (.iastore, 1) := by decide +kernel
theorem dX7_matrix_112 : decode cX7_matrix 112 = .ok (.aload_n 0, 1) := by decide +kernel
theorem dX7_matrix_113 : decode cX7_matrix 113 = .ok (.getfield 7, 3) := by decide +kernel
theorem dX7_matrix_116 : decode cX7_matrix 116 = .ok (.iconst 1, 1) := by decide +kernel
theorem dX7_matrix_117 : decode cX7_matrix 117 = .ok (.iload_n 1, 1) := by decide +kernel
theorem dX7_matrix_118 : decode cX7_matrix 118 = .ok (.iastore, 1) := by decide +kernel
theorem dX7_matrix_119 : decode cX7_matrix 119 = .ok (.iconst 0, 1) := by decide +kernel
theorem dX7_matrix_120 : decode cX7_matrix 120 = .ok (.istore 5, 2) := by decide +kernel
theorem dX7_matrix_122 : decode cX7_matrix 122 = .ok (.iload 5, 2) := by decide +kernel
theorem dX7_matrix_124 : decode cX7_matrix 124 = .ok (.bipush 11, 2) := by decide +kernel
theorem dX7_matrix_126 : decode cX7_matrix 126 = .ok (.if_icmp .ge 35, 3) := by decide +kernel
theorem dX7_matrix_129 : decode cX7_matrix 129 = .ok (.aload_n 0, 1) := by decide +kernel
theorem dX7_matrix_130 : decode cX7_matrix 130 = .ok (.getfield 7, 3) := by decide +kernel
theorem dX7_matrix_133 : decode cX7_matrix 133 = .ok (.iconst 4, 1) := by decide +kernel
theorem dX7_matrix_134 : decode cX7_matrix 134 = .ok (.iload 5, 2) := by decide +kernel
theorem dX7_matrix_136 : decode cX7_matrix 136 = .ok (.iadd, 1) := by decide +kernel
theorem dX7_matrix_137 : decode cX7_matrix 137 = .ok (.iload 5, 2) := by decide +kernel
theorem dX7_matrix_139 : decode cX7_matrix 139 = .ok (.iload_n 2, 1) := by decide +kernel
theorem dX7_matrix_140 : decode cX7_matrix 140 = .ok (.if_icmp .ge 13, 3) := by decide +kernel
theorem dX7_matrix_143 : decode cX7_matrix 143 = .ok (.aload_n 0, 1) := by decide +kernel
theorem dX7_matrix_144 : decode cX7_matrix 144 = .ok (.getfield 22, 3) := by decide +kernel
theorem dX7_matrix_147 : decode cX7_matrix 147 = .ok (.iload 5, 2) := by decide +kernel
theorem dX7_matrix_149 : decode cX7_matrix 149 = .ok (.iaload, 1) := by decide +kernel
theorem dX7_matrix_150 : decode cX7_matrix 150 = .ok (.goto 4, 3) := by decide +kernel
theorem dX7_matrix_153 : decode cX7_matrix 153 = .ok (.iconst 0, 1) := by decide +kernel
theorem dX7_matrix_154 : decode cX7_matrix 154 = .ok (.iastore, 1) := by decide +kernel
theorem dX7_matrix_155 : decode cX7_matrix 155 = .ok (.iinc 5 1, 3) := by decide +kernel
theorem dX7_matrix_158 : decode cX7_matrix 158 = .ok (.goto (-36), 3) := by decide +kernel
theorem dX7_matrix_161 : decode cX7_matrix 161 = .ok (.iconst 0, 1) := by decide +kernel
theorem dX7_matrix_162 : decode cX7_matrix 162 = .ok (.istore 5, 2) := by decide +kernel
theorem dX7_matrix_164 : decode cX7_matrix 164 = .ok (.iload 5, 2) := by decide +kernel
theorem dX7_matrix_166 : decode cX7_matrix 166 = .ok (.bipush 6, 2) := by decide +kernel
theorem dX7_matrix_168 : decode cX7_matrix 168 = .ok (.if_icmp .ge 40, 3) := by decide +kernel
theorem dX7_matrix_171 : decode cX7_matrix 171 = .ok (.aload_n 0, 1) := by decide +kernel
theorem dX7_matrix_172 : decode cX7_matrix 172 = .ok (.getfield 7, 3) := by decide +kernel
theorem dX7_matrix_175 : decode cX7_matrix 175 = .ok (.bipush 15, 2) := by decide +kernel
theorem dX7_matrix_177 : decode cX7_matrix 177 = .ok (.iload 5, 2) := by decide +kernel
theorem dX7_matrix_179 : decode cX7_matrix 179 = .ok (.iadd, 1) := by decide +kernel
theorem dX7_matrix_180 : decode cX7_matrix 180 = .ok (.iload 5, 2) := by decide +kernel
theorem dX7_matrix_182 : decode cX7_matrix 182 = .ok (.iload 4, 2) := by decide +kernel
theorem dX7_matrix_184 : decode cX7_matrix 184 = .ok (.if_icmp .ge 16, 3) := by decide +kernel
theorem dX7_matrix_187 : decode cX7_matrix 187 = .ok (.aload_n 0, 1) := by decide +kernel
theorem dX7_matrix_188 : decode cX7_matrix 188 = .ok (.getfield 22, 3) := by decide +kernel
theorem dX7_matrix_191 : decode cX7_matrix 191 = .ok (.bipush 11, 2) := by decide +kernel
theorem dX7_matrix_193 : decode cX7_matrix 193 = .ok (.iload 5, 2) := by decide +kernel
theorem dX7_matrix_195 : decode cX7_matrix 195 = .ok (.iadd, 1) := by decide +kernel
theorem dX7_matrix_196 : decode cX7_matrix 196 = .ok (.iaload, 1) := by decide +kernel
theorem dX7_matrix_197 : decode cX7_matrix 197 = .ok (.goto 4, 3) := by decide +kernel
theorem dX7_matrix_200 : decode cX7_matrix 200 = .ok (.iconst 0, 1) := by decide +kernel
theorem dX7_matrix_201 : decode cX7_matrix 201 = .ok (.iastore, 1) := by decide +kernel
theorem dX7_matrix_202 : decode cX7_matrix 202 = .ok (.iinc 5 1, 3) := by decide +kernel
theorem dX7_matrix_205 : decode cX7_matrix 205 = .ok (.goto (-41), 3) := by decide +kernel
theorem dX7_matrix_208 : decode cX7_matrix 208 = .ok (.aload_n 0, 1) := by decide +kernel
theorem dX7_matrix_209 : decode cX7_matrix 209 = .ok (.iconst 0, 1) := by decide +kernel
theorem dX7_matrix_210 : decode cX7_matrix 210 = .ok (.putfield 108, 3) := by decide +kernel
theorem dX7_matrix_213 : decode cX7_matrix 213 = .ok (.aload_n 0, 1) := by decide +kernel
theorem dX7_matrix_214 : decode cX7_matrix 214 = .ok (.iconst 0, 1) := by decide +kernel
theorem dX7_matrix_215 : decode cX7_matrix 215 = .ok (.putfield 133, 3) := by decide +kernel
theorem dX7_matrix_218 : decode cX7_matrix 218 = .ok (.iload_n 3, 1) := by decide +kernel
theorem dX7_matrix_219 : decode cX7_matrix 219 = .ok (.ireturn, 1) := by decide +kernel
theorem dX7_notes_0 : decode cX7_notes 0 = .ok (.aload_n 0, 1) := by decide +kernel
theorem dX7_notes_1 : decode cX7_notes 1 = .ok (.getfield 108, 3) := by decide +kernel
theorem dX7_notes_4 : decode cX7_notes 4 = .ok (.bipush 8, 2) := by decide +kernel
theorem dX7_notes_6 : decode cX7_notes 6 = .ok (.if_icmp .ne 40, 3) := by decide +kernel
theorem dX7_notes_9 : decode cX7_notes 9 = .ok (.bipush 21, 2) := by decide +kernel
theorem dX7_notes_11 : decode cX7_notes 11 = .ok (.istore_n 1, 1) := by decide +kernel
theorem dX7_notes_12 : decode cX7_notes 12 = .ok (.iload_n 1, 1) := by decide +kernel
theorem dX7_notes_13 : decode cX7_notes 13 = .ok (.sipush 168, 3) := by decide +kernel
theorem dX7_notes_16 : decode cX7_notes 16 = .ok (.if_icmp .ge 24, 3) := by decide +kernel
theorem dX7_notes_19 : decode cX7_notes 19 = .ok (.aload_n 0, 1) := by decide +kernel
theorem dX7_notes_20 : decode cX7_notes 20 = .ok (.getfield 25, 3) := by decide +kernel
theorem dX7_notes_23 : decode cX7_notes 23 = .ok (.iload_n 1, 1) := by decide +kernel
theorem dX7_notes_24 : decode cX7_notes 24 = .ok (.bipush 21, 2) := by decide +kernel
theorem dX7_notes_26 : decode cX7_notes 26 = .ok (.isub, 1) := by decide +kernel
theorem dX7_notes_27 : decode cX7_notes 27 = .ok (.aload_n 0, 1) := by decide +kernel
theorem dX7_notes_28 : decode cX7_notes 28 = .ok (.getfield 25, 3) := by decide +kernel
theorem dX7_notes_31 : decode cX7_notes 31 = .ok (.iload_n 1, 1) := by decide +kernel
theorem dX7_notes_32 : decode cX7_notes 32 = .ok (.iaload, 1) := by decide +kernel
theorem dX7_notes_33 : decode cX7_notes 33 = .ok (.iastore, 1) := by decide +kernel
theorem dX7_notes_34 : decode cX7_notes 34 = .ok (.iinc 1 1, 3) := by decide +kernel
theorem dX7_notes_37 : decode cX7_notes 37 = .ok (.goto (-25), 3) := by decide +kernel
theorem dX7_notes_40 : decode cX7_notes 40 = .ok (.aload_n 0, 1) := by decide +kernel
theorem dX7_notes_41 : decode cX7_notes 41 = .ok (.bipush 7, 2) := by decide +kernel
theorem dX7_notes_43 : decode cX7_notes 43 = .ok (.putfield 108, 3) := by decide +kernel
theorem dX7_notes_46 : decode cX7_notes 46 = .ok (.iconst 0, 1) := by decide +kernel
theorem dX7_notes_47 : decode cX7_notes 47 = .ok (.istore_n 1, 1) := by decide +kernel
theorem dX7_notes_48 : decode cX7_notes 48 = .ok (.iload_n 1, 1) := by decide +kernel
theorem dX7_notes_49 : decode cX7_notes 49 = .ok (.bipush 21, 2) := by decide +kernel
theorem dX7_notes_51 : decode cX7_notes 51 = .ok (.if_icmp .ge 29, 3) := by decide +kernel
theorem dX7_notes_54 : decode cX7_notes 54 = .ok (.aload_n 0, 1) := by decide +kernel
theorem dX7_notes_55 : decode cX7_notes 55 = .ok (.getfield 25, 3) := by decide +kernel
theorem dX7_notes_58 : decode cX7_notes 58 = .ok (.bipush 21, 2) := by decide +kernel
theorem dX7_notes_60 : decode cX7_notes 60 = .ok (.aload_n 0, 1) := by decide +kernel
theorem dX7_notes_61 : decode cX7_notes 61 = .ok (.getfield 108, 3) := by decide +kernel
theorem dX7_notes_64 : decode cX7_notes 64 = .ok (.imul, 1) := by decide +kernel
theorem dX7_notes_65 : decode cX7_notes 65 = .ok (.iload_n 1, 1) := by decide +kernel
theorem dX7_notes_66 : decode cX7_notes 66 = .ok (.iadd, 1) := by decide +kernel
theorem dX7_notes_67 : decode cX7_notes 67 = .ok (.aload_n 0, 1) := by decide +kernel
theorem dX7_notes_68 : decode cX7_notes 68 = .ok (.getfield 7, 3) := by decide +kernel
theorem dX7_notes_71 : decode cX7_notes 71 = .ok (.iload_n 1, 1) := by decide +kernel
theorem dX7_notes_72 : decode cX7_notes 72 = .ok (.iaload, 1) := by decide +kernel
theorem dX7_notes_73 : decode cX7_notes 73 = .ok (.iastore, 1) := by decide +kernel
theorem dX7_notes_74 : decode cX7_notes 74 = .ok (.iinc 1 1, 3) := by decide +kernel
theorem dX7_notes_77 : decode cX7_notes 77 = .ok (.goto (-29), 3) := by decide +kernel
theorem dX7_notes_80 : decode cX7_notes 80 = .ok (.aload_n 0, 1) := by decide +kernel
theorem dX7_notes_81 : decode cX7_notes 81 = .ok (.dup, 1) := by decide +kernel
theorem dX7_notes_82 : decode cX7_notes 82 = .ok (.getfield 108, 3) := by decide +kernel
theorem dX7_notes_85 : decode cX7_notes 85 = .ok (.iconst 1, 1) := by decide +kernel
theorem dX7_notes_86 : decode cX7_notes 86 = .ok (.iadd, 1) := by decide +kernel
theorem dX7_notes_87 : decode cX7_notes 87 = .ok (.putfield 108, 3) := by decide +kernel
theorem dX7_notes_90 : decode cX7_notes 90 = .ok (.return_, 1) := by decide +kernel
theorem dX7_change_0 : decode cX7_change 0 = .ok (.aload_n 0, 1) := by decide +kernel
theorem dX7_change_1 : decode cX7_change 1 = .ok (.iload_n 1, 1) := by decide +kernel
theorem dX7_change_2 : decode cX7_change 2 = .ok (.invokevirtual 111, 3) := by decide +kernel
theorem dX7_change_5 : decode cX7_change 5 = .ok (.ifCond .eq 12, 3) := by decide +kernel
theorem dX7_change_8 : decode cX7_change 8 = .ok (.aload_n 0, 1) := by decide +kernel
theorem dX7_change_9 : decode cX7_change 9 = .ok (.iload_n 2, 1) := by decide +kernel
theorem dX7_change_10 : decode cX7_change 10 = .ok (.i2l, 1) := by decide +kernel
theorem dX7_change_11 : decode cX7_change 11 = .ok (.invokevirtual 146, 3) := by decide +kernel
theorem dX7_change_14 : decode cX7_change 14 = .ok (.ifCond .ne 5, 3) := by decide +kernel
theorem dX7_change_17 : decode cX7_change 17 = .ok (.iconst (-1), 1) := by decide +kernel
theorem dX7_change_18 : decode cX7_change 18 = .ok (.ireturn, 1) := by decide +kernel
theorem dX7_change_19 : decode cX7_change 19 = .ok (.aload_n 0, 1) := by decide +kernel
theorem dX7_change_20 : decode cX7_change 20 = .ok (.getfield 7, 3) := by decide +kernel
theorem dX7_change_23 : decode cX7_change 23 = .ok (.iconst 4, 1) := by decide +kernel
theorem dX7_change_24 : decode cX7_change 24 = .ok (.iload_n 1, 1) := by decide +kernel
theorem dX7_change_25 : decode cX7_change 25 = .ok (.iadd, 1) := by decide +kernel
theorem dX7_change_26 : decode cX7_change 26 = .ok (.iaload, 1) := by decide +kernel
theorem dX7_change_27 : decode cX7_change 27 = .ok (.istore_n 3, 1) := by decide +kernel
theorem dX7_change_28 : decode cX7_change 28 = .ok (.iload_n 3, 1) := by decide +kernel
theorem dX7_change_29 : decode cX7_change 29 = .ok (.iload_n 2, 1) := by decide +kernel
theorem dX7_change_30 : decode cX7_change 30 = .ok (.if_icmp .ne 6, 3) := by decide +kernel
theorem dX7_change_33 : decode cX7_change 33 = .ok (.bipush (-2), 2) := by decide +kernel
theorem dX7_change_35 : decode cX7_change 35 = .ok (.ireturn, 1) := by decide +kernel
theorem dX7_change_36 : decode cX7_change 36 = .ok (.aload_n 0, 1) := by decide +kernel
theorem dX7_change_37 : decode cX7_change 37 = .ok (.invokevirtual 166, 3) := by decide +kernel
theorem dX7_change_40 : decode cX7_change 40 = .ok (.aload_n 0, 1) := by decide +kernel
theorem dX7_change_41 : decode cX7_change 41 = .ok (.getfield 7, 3) := by decide +kernel
theorem dX7_change_44 : decode cX7_change 44 = .ok (.iconst 4, 1) := by decide +kernel
theorem dX7_change_45 : decode cX7_change 45 = .ok (.iload_n 1, 1) := by decide +kernel
theorem dX7_change_46 : decode cX7_change 46 = .ok (.iadd, 1) := by decide +kernel
theorem dX7_change_47 : decode cX7_change 47 = .ok (.iload_n 2, 1) := by decide +kernel
theorem dX7_change_48 : decode cX7_change 48 = .ok (.iastore, 1) := by decide +kernel
theorem dX7_change_49 : decode cX7_change 49 = .ok (.iload_n 3, 1) := by decide +kernel
theorem dX7_change_50 : decode cX7_change 50 = .ok (.ireturn, 1) := by decide +kernel
theorem dX7_put_0 : decode cX7_put 0 = .ok (.aload_n 0, 1) := by decide +kernel
theorem dX7_put_1 : decode cX7_put 1 = .ok (.iload_n 1, 1) := by decide +kernel
theorem dX7_put_2 : decode cX7_put 2 = .ok (.invokevirtual 114, 3) := by decide +kernel
theorem dX7_put_5 : decode cX7_put 5 = .ok (.ifCond .eq 12, 3) := by decide +kernel
theorem dX7_put_8 : decode cX7_put 8 = .ok (.aload_n 0, 1) := by decide +kernel
theorem dX7_put_9 : decode cX7_put 9 = .ok (.iload_n 2, 1) := by decide +kernel
theorem dX7_put_10 : decode cX7_put 10 = .ok (.i2l, 1) := by decide +kernel
theorem dX7_put_11 : decode cX7_put 11 = .ok (.invokevirtual 146, 3) := by decide +kernel
theorem dX7_put_14 : decode cX7_put 14 = .ok (.ifCond .ne 5, 3) := by decide +kernel
theorem dX7_put_17 : decode cX7_put 17 = .ok (.iconst (-1), 1) := by decide +kernel
theorem dX7_put_18 : decode cX7_put 18 = .ok (.ireturn, 1) := by decide +kernel
theorem dX7_put_19 : decode cX7_put 19 = .ok (.aload_n 0, 1) := by decide +kernel
theorem dX7_put_20 : decode cX7_put 20 = .ok (.getfield 7, 3) := by decide +kernel
theorem dX7_put_23 : decode cX7_put 23 = .ok (.bipush 15, 2) := by decide +kernel
theorem dX7_put_25 : decode cX7_put 25 = .ok (.iload_n 1, 1) := by decide +kernel
theorem dX7_put_26 : decode cX7_put 26 = .ok (.iadd, 1) := by decide +kernel
theorem dX7_put_27 : decode cX7_put 27 = .ok (.iaload, 1) := by decide +kernel
theorem dX7_put_28 : decode cX7_put 28 = .ok (.istore_n 3, 1) := by decide +kernel
theorem dX7_put_29 : decode cX7_put 29 = .ok (.iload_n 3, 1) := by decide +kernel
theorem dX7_put_30 : decode cX7_put 30 = .ok (.iload_n 2, 1) := by decide +kernel
theorem dX7_put_31 : decode cX7_put 31 = .ok (.if_icmp .ne 6, 3) := by decide +kernel
theorem dX7_put_34 : decode cX7_put 34 = .ok (.bipush (-2), 2) := by decide +kernel
theorem dX7_put_36 : decode cX7_put 36 = .ok (.ireturn, 1) := by decide +kernel
theorem dX7_put_37 : decode cX7_put 37 = .ok (.aload_n 0, 1) := by decide +kernel
theorem dX7_put_38 : decode cX7_put 38 = .ok (.invokevirtual 166, 3) := by decide +kernel
theorem dX7_put_41 : decode cX7_put 41 = .ok (.aload_n 0, 1) := by decide +kernel
theorem dX7_put_42 : decode cX7_put 42 = .ok (.getfield 7, 3) := by decide +kernel
theorem dX7_put_45 : decode cX7_put 45 = .ok (.bipush 15, 2) := by decide +kernel
theorem dX7_put_47 : decode cX7_put 47 = .ok (.iload_n 1, 1) := by decide +kernel
theorem dX7_put_48 : decode cX7_put 48 = .ok (.iadd, 1) := by decide +kernel
theorem dX7_put_49 : decode cX7_put 49 = .ok (.iload_n 2, 1) := by decide +kernel
theorem dX7_put_50 : decode cX7_put 50 = .ok (.iastore, 1) := by decide +kernel
theorem dX7_put_51 : decode cX7_put 51 = .ok (.iload_n 3, 1) := by decide +kernel
theorem dX7_put_52 : decode cX7_put 52 = .ok (.ireturn, 1) := by decide +kernel
theorem dX7_shape_0 : decode cX7_shape 0 = .ok (.iload_n 1, 1) := by decide +kernel
theorem dX7_shape_1 : decode cX7_shape 1 = .ok (.i2l, 1) := by decide +kernel
theorem dX7_shape_2 : decode cX7_shape 2 = .ok (.lconst 0, 1) := by decide +kernel
theorem dX7_shape_3 : decode cX7_shape 3 = .ok (.ldc2_w 169, 3) := by decide +kernel
theorem dX7_shape_6 : decode cX7_shape 6 = .ok (.invokestatic 57, 3) := by decide +kernel
theorem dX7_shape_9 : decode cX7_shape 9 = .ok (.ifCond .ne 5, 3) := by decide +kernel
theorem dX7_shape_12 : decode cX7_shape 12 = .ok (.iconst (-1), 1) := by decide +kernel
theorem dX7_shape_13 : decode cX7_shape 13 = .ok (.ireturn, 1) := by decide +kernel
theorem dX7_shape_14 : decode cX7_shape 14 = .ok (.aload_n 0, 1) := by decide +kernel
theorem dX7_shape_15 : decode cX7_shape 15 = .ok (.getfield 7, 3) := by decide +kernel
theorem dX7_shape_18 : decode cX7_shape 18 = .ok (.iconst 1, 1) := by decide +kernel
theorem dX7_shape_19 : decode cX7_shape 19 = .ok (.iaload, 1) := by decide +kernel
theorem dX7_shape_20 : decode cX7_shape 20 = .ok (.istore_n 2, 1) := by decide +kernel
theorem dX7_shape_21 : decode cX7_shape 21 = .ok (.iload_n 2, 1) := by decide +kernel
theorem dX7_shape_22 : decode cX7_shape 22 = .ok (.iload_n 1, 1) := by decide +kernel
theorem dX7_shape_23 : decode cX7_shape 23 = .ok (.if_icmp .ne 6, 3) := by decide +kernel
theorem dX7_shape_26 : decode cX7_shape 26 = .ok (.bipush (-2), 2) := by decide +kernel
theorem dX7_shape_28 : decode cX7_shape 28 = .ok (.ireturn, 1) := by decide +kernel
theorem dX7_shape_29 : decode cX7_shape 29 = .ok (.aload_n 0, 1) := by decide +kernel
theorem dX7_shape_30 : decode cX7_shape 30 = .ok (.invokevirtual 166, 3) := by decide +kernel
theorem dX7_shape_33 : decode cX7_shape 33 = .ok (.aload_n 0, 1) := by decide +kernel
theorem dX7_shape_34 : decode cX7_shape 34 = .ok (.getfield 7, 3) := by decide +kernel
theorem dX7_shape_37 : decode cX7_shape 37 = .ok (.iconst 1, 1) := by decide +kernel
theorem dX7_shape_38 : decode cX7_shape 38 = .ok (.iload_n 1, 1) := by decide +kernel
theorem dX7_shape_39 : decode cX7_shape 39 = .ok (.iastore, 1) := by decide +kernel
theorem dX7_shape_40 : decode cX7_shape 40 = .ok (.iload_n 2, 1) := by decide +kernel
theorem dX7_shape_41 : decode cX7_shape 41 = .ok (.ireturn, 1) := by decide +kernel
theorem dX7_widen_0 : decode cX7_widen 0 = .ok (.aload_n 0, 1) := by decide +kernel
theorem dX7_widen_1 : decode cX7_widen 1 = .ok (.invokevirtual 61, 3) := by decide +kernel
theorem dX7_widen_4 : decode cX7_widen 4 = .ok (.istore_n 1, 1) := by decide +kernel
theorem dX7_widen_5 : decode cX7_widen 5 = .ok (.aload_n 0, 1) := by decide +kernel
theorem dX7_widen_6 : decode cX7_widen 6 = .ok (.getfield 7, 3) := by decide +kernel
theorem dX7_widen_9 : decode cX7_widen 9 = .ok (.iconst 0, 1) := by decide +kernel
theorem dX7_widen_10 : decode cX7_widen 10 = .ok (.iaload, 1) := by decide +kernel
theorem dX7_widen_11 : decode cX7_widen 11 = .ok (.bipush 6, 2) := by decide +kernel
theorem dX7_widen_13 : decode cX7_widen 13 = .ok (.if_icmp .ne 6, 3) := by decide +kernel
theorem dX7_widen_16 : decode cX7_widen 16 = .ok (.bipush (-3), 2) := by decide +kernel
theorem dX7_widen_18 : decode cX7_widen 18 = .ok (.ireturn, 1) := by decide +kernel
theorem dX7_widen_19 : decode cX7_widen 19 = .ok (.aload_n 0, 1) := by decide +kernel
theorem dX7_widen_20 : decode cX7_widen 20 = .ok (.invokevirtual 166, 3) := by decide +kernel
theorem dX7_widen_23 : decode cX7_widen 23 = .ok (.iload_n 1, 1) := by decide +kernel
theorem dX7_widen_24 : decode cX7_widen 24 = .ok (.istore_n 2, 1) := by decide +kernel
theorem dX7_widen_25 : decode cX7_widen 25 = .ok (.iload_n 2, 1) := by decide +kernel
theorem dX7_widen_26 : decode cX7_widen 26 = .ok (.ifCond .le 27, 3) := by decide +kernel
theorem dX7_widen_29 : decode cX7_widen 29 = .ok (.aload_n 0, 1) := by decide +kernel
theorem dX7_widen_30 : decode cX7_widen 30 = .ok (.getfield 7, 3) := by decide +kernel
theorem dX7_widen_33 : decode cX7_widen 33 = .ok (.iconst 4, 1) := by decide +kernel
theorem dX7_widen_34 : decode cX7_widen 34 = .ok (.iload_n 2, 1) := by decide +kernel
theorem dX7_widen_35 : decode cX7_widen 35 = .ok (.iadd, 1) := by decide +kernel
theorem dX7_widen_36 : decode cX7_widen 36 = .ok (.aload_n 0, 1) := by decide +kernel
theorem dX7_widen_37 : decode cX7_widen 37 = .ok (.getfield 7, 3) := by decide +kernel
theorem dX7_widen_40 : decode cX7_widen 40 = .ok (.iconst 4, 1) := by decide +kernel
theorem dX7_widen_41 : decode cX7_widen 41 = .ok (.iload_n 2, 1) := by decide +kernel
theorem dX7_widen_42 : decode cX7_widen 42 = .ok (.iadd, 1) := by decide +kernel
theorem dX7_widen_43 : decode cX7_widen 43 = .ok (.iconst 1, 1) := by decide +kernel
theorem dX7_widen_44 : decode cX7_widen 44 = .ok (.isub, 1) := by decide +kernel
theorem dX7_widen_45 : decode cX7_widen 45 = .ok (.iaload, 1) := by decide +kernel
theorem dX7_widen_46 : decode cX7_widen 46 = .ok (.iastore, 1) := by decide +kernel
theorem dX7_widen_47 : decode cX7_widen 47 = .ok (.iinc 2 (-1), 3) := by decide +kernel
theorem dX7_widen_50 : decode cX7_widen 50 = .ok (.goto (-25), 3) := by decide +kernel
theorem dX7_widen_53 : decode cX7_widen 53 = .ok (.aload_n 0, 1) := by decide +kernel
theorem dX7_widen_54 : decode cX7_widen 54 = .ok (.getfield 7, 3) := by decide +kernel
theorem dX7_widen_57 : decode cX7_widen 57 = .ok (.iconst 4, 1) := by decide +kernel
theorem dX7_widen_58 : decode cX7_widen 58 = .ok (.iconst 0, 1) := by decide +kernel
theorem dX7_widen_59 : decode cX7_widen 59 = .ok (.iastore, 1) := by decide +kernel
theorem dX7_widen_60 : decode cX7_widen 60 = .ok (.aload_n 0, 1) := by decide +kernel
theorem dX7_widen_61 : decode cX7_widen 61 = .ok (.getfield 7, 3) := by decide +kernel
theorem dX7_widen_64 : decode cX7_widen 64 = .ok (.iconst 4, 1) := by decide +kernel
theorem dX7_widen_65 : decode cX7_widen 65 = .ok (.iload_n 1, 1) := by decide +kernel
theorem dX7_widen_66 : decode cX7_widen 66 = .ok (.iadd, 1) := by decide +kernel
theorem dX7_widen_67 : decode cX7_widen 67 = .ok (.iconst 1, 1) := by decide +kernel
theorem dX7_widen_68 : decode cX7_widen 68 = .ok (.iadd, 1) := by decide +kernel
theorem dX7_widen_69 : decode cX7_widen 69 = .ok (.iconst 0, 1) := by decide +kernel
theorem dX7_widen_70 : decode cX7_widen 70 = .ok (.iastore, 1) := by decide +kernel
theorem dX7_widen_71 : decode cX7_widen 71 = .ok (.aload_n 0, 1) := by decide +kernel
theorem dX7_widen_72 : decode cX7_widen 72 = .ok (.getfield 7, 3) := by decide +kernel
theorem dX7_widen_75 : decode cX7_widen 75 = .ok (.bipush 15, 2) := by decide +kernel
theorem dX7_widen_77 : decode cX7_widen 77 = .ok (.aload_n 0, 1) := by decide +kernel
theorem dX7_widen_78 : decode cX7_widen 78 = .ok (.getfield 7, 3) := by decide +kernel
theorem dX7_widen_81 : decode cX7_widen 81 = .ok (.iconst 0, 1) := by decide +kernel
theorem dX7_widen_82 : decode cX7_widen 82 = .ok (.iaload, 1) := by decide +kernel
theorem dX7_widen_83 : decode cX7_widen 83 = .ok (.iadd, 1) := by decide +kernel
theorem dX7_widen_84 : decode cX7_widen 84 = .ok (.iconst 0, 1) := by decide +kernel
theorem dX7_widen_85 : decode cX7_widen 85 = .ok (.iastore, 1) := by decide +kernel
theorem dX7_widen_86 : decode cX7_widen 86 = .ok (.aload_n 0, 1) := by decide +kernel
theorem dX7_widen_87 : decode cX7_widen 87 = .ok (.getfield 7, 3) := by decide +kernel
theorem dX7_widen_90 : decode cX7_widen 90 = .ok (.iconst 0, 1) := by decide +kernel
theorem dX7_widen_91 : decode cX7_widen 91 = .ok (.dup2, 1) := by decide +kernel
theorem dX7_widen_92 : decode cX7_widen 92 = .ok (.iaload, 1) := by decide +kernel
theorem dX7_widen_93 : decode cX7_widen 93 = .ok (.iconst 1, 1) := by decide +kernel
theorem dX7_widen_94 : decode cX7_widen 94 = .ok (.iadd, 1) := by decide +kernel
theorem dX7_widen_95 : decode cX7_widen 95 = .ok (.iastore, 1) := by decide +kernel
theorem dX7_widen_96 : decode cX7_widen 96 = .ok (.aload_n 0, 1) := by decide +kernel
theorem dX7_widen_97 : decode cX7_widen 97 = .ok (.getfield 7, 3) := by decide +kernel
