theorem dX6_swap_156 : decode cX6_swap 156 = .ok (.iload 6, 2) := by decide +kernel
theorem dX6_swap_158 : decode cX6_swap 158 = .ok (.bipush 10, 2) := by decide +kernel
theorem dX6_swap_160 : decode cX6_swap 160 = .ok (.iload_n 1, 1) := by decide +kernel
theorem dX6_swap_161 : decode cX6_swap 161 = .ok (.imul, 1) := by decide +kernel
theorem dX6_swap_162 : decode cX6_swap 162 = .ok (.iload_n 2, 1) := by decide +kernel
theorem dX6_swap_163 : decode cX6_swap 163 = .ok (.iadd, 1) := by decide +kernel
theorem dX6_swap_164 : decode cX6_swap 164 = .ok (.invokevirtual 124, 3) := by decide +kernel
theorem dX6_swap_167 : decode cX6_swap 167 = .ok (.iconst 1, 1) := by decide +kernel
theorem dX6_swap_168 : decode cX6_swap 168 = .ok (.ireturn, 1) := by decide +kernel
theorem dX6_read_0 : decode cX6_read 0 = .ok (.iload_n 1, 1) := by decide +kernel
theorem dX6_read_1 : decode cX6_read 1 = .ok (.aload_n 0, 1) := by decide +kernel
theorem dX6_read_2 : decode cX6_read 2 = .ok (.getfield 107, 3) := by decide +kernel
theorem dX6_read_5 : decode cX6_read 5 = .ok (.invokestatic 89, 3) := by decide +kernel
theorem dX6_read_8 : decode cX6_read 8 = .ok (.ifCond .ne 9, 3) := by decide +kernel
theorem dX6_read_11 : decode cX6_read 11 = .ok (.aload_n 0, 1) := by decide +kernel
theorem dX6_read_12 : decode cX6_read 12 = .ok (.iconst (-1), 1) := by decide +kernel
theorem dX6_read_13 : decode cX6_read 13 = .ok (.invokevirtual 93, 3) := by decide +kernel
theorem dX6_read_16 : decode cX6_read 16 = .ok (.ireturn, 1) := by decide +kernel
theorem dX6_read_17 : decode cX6_read 17 = .ok (.aload_n 0, 1) := by decide +kernel
theorem dX6_read_18 : decode cX6_read 18 = .ok (.getfield 50, 3) := by decide +kernel
theorem dX6_read_21 : decode cX6_read 21 = .ok (.iload_n 1, 1) := by decide +kernel
theorem dX6_read_22 : decode cX6_read 22 = .ok (.iaload, 1) := by decide +kernel
theorem dX6_read_23 : decode cX6_read 23 = .ok (.bipush (-2), 2) := by decide +kernel
theorem dX6_read_25 : decode cX6_read 25 = .ok (.if_icmp .eq 14, 3) := by decide +kernel
theorem dX6_read_28 : decode cX6_read 28 = .ok (.aload_n 0, 1) := by decide +kernel
theorem dX6_read_29 : decode cX6_read 29 = .ok (.getfield 50, 3) := by decide +kernel
theorem dX6_read_32 : decode cX6_read 32 = .ok (.iload_n 1, 1) := by decide +kernel
theorem dX6_read_33 : decode cX6_read 33 = .ok (.iaload, 1) := by decide +kernel
theorem dX6_read_34 : decode cX6_read 34 = .ok (.bipush (-3), 2) := by decide +kernel
theorem dX6_read_36 : decode cX6_read 36 = .ok (.if_icmp .ne 10, 3) := by decide +kernel
theorem dX6_read_39 : decode cX6_read 39 = .ok (.aload_n 0, 1) := by decide +kernel
theorem dX6_read_40 : decode cX6_read 40 = .ok (.bipush (-2), 2) := by decide +kernel
theorem dX6_read_42 : decode cX6_read 42 = .ok (.invokevirtual 93, 3) := by decide +kernel
theorem dX6_read_45 : decode cX6_read 45 = .ok (.ireturn, 1) := by decide +kernel
theorem dX6_read_46 : decode cX6_read 46 = .ok (.iload_n 2, 1) := by decide +kernel
theorem dX6_read_47 : decode cX6_read 47 = .ok (.ifCond .ge 10, 3) := by decide +kernel
theorem dX6_read_50 : decode cX6_read 50 = .ok (.aload_n 0, 1) := by decide +kernel
theorem dX6_read_51 : decode cX6_read 51 = .ok (.bipush (-4), 2) := by decide +kernel
theorem dX6_read_53 : decode cX6_read 53 = .ok (.invokevirtual 93, 3) := by decide +kernel
theorem dX6_read_56 : decode cX6_read 56 = .ok (.ireturn, 1) := by decide +kernel
theorem dX6_read_57 : decode cX6_read 57 = .ok (.iload_n 2, 1) := by decide +kernel
theorem dX6_read_58 : decode cX6_read 58 = .ok (.sipush 300, 3) := by decide +kernel
theorem dX6_read_61 : decode cX6_read 61 = .ok (.if_icmp .le 10, 3) := by decide +kernel
theorem dX6_read_64 : decode cX6_read 64 = .ok (.aload_n 0, 1) := by decide +kernel
theorem dX6_read_65 : decode cX6_read 65 = .ok (.bipush (-6), 2) := by decide +kernel
theorem dX6_read_67 : decode cX6_read 67 = .ok (.invokevirtual 93, 3) := by decide +kernel
theorem dX6_read_70 : decode cX6_read 70 = .ok (.ireturn, 1) := by decide +kernel
theorem dX6_read_71 : decode cX6_read 71 = .ok (.bipush 13, 2) := by decide +kernel
theorem dX6_read_73 : decode cX6_read 73 = .ok (.iload_n 1, 1) := by decide +kernel
theorem dX6_read_74 : decode cX6_read 74 = .ok (.imul, 1) := by decide +kernel
theorem dX6_read_75 : decode cX6_read 75 = .ok (.istore_n 3, 1) := by decide +kernel
theorem dX6_read_76 : decode cX6_read 76 = .ok (.aload_n 0, 1) := by decide +kernel
theorem dX6_read_77 : decode cX6_read 77 = .ok (.getfield 59, 3) := by decide +kernel
theorem dX6_read_80 : decode cX6_read 80 = .ok (.iload_n 3, 1) := by decide +kernel
theorem dX6_read_81 : decode cX6_read 81 = .ok (.aload_n 0, 1) := by decide +kernel
theorem dX6_read_82 : decode cX6_read 82 = .ok (.getfield 56, 3) := by decide +kernel
theorem dX6_read_85 : decode cX6_read 85 = .ok (.iload_n 1, 1) := by decide +kernel
theorem dX6_read_86 : decode cX6_read 86 = .ok (.iaload, 1) := by decide +kernel
theorem dX6_read_87 : decode cX6_read 87 = .ok (.iadd, 1) := by decide +kernel
theorem dX6_read_88 : decode cX6_read 88 = .ok (.aload_n 0, 1) := by decide +kernel
theorem dX6_read_89 : decode cX6_read 89 = .ok (.getfield 47, 3) := by decide +kernel
theorem dX6_read_92 : decode cX6_read 92 = .ok (.iload_n 1, 1) := by decide +kernel
theorem dX6_read_93 : decode cX6_read 93 = .ok (.iaload, 1) := by decide +kernel
theorem dX6_read_94 : decode cX6_read 94 = .ok (.iastore, 1) := by decide +kernel
theorem dX6_read_95 : decode cX6_read 95 = .ok (.aload_n 0, 1) := by decide +kernel
theorem dX6_read_96 : decode cX6_read 96 = .ok (.getfield 62, 3) := by decide +kernel
theorem dX6_read_99 : decode cX6_read 99 = .ok (.iload_n 3, 1) := by decide +kernel
theorem dX6_read_100 : decode cX6_read 100 = .ok (.aload_n 0, 1) := by decide +kernel
theorem dX6_read_101 : decode cX6_read 101 = .ok (.getfield 56, 3) := by decide +kernel
theorem dX6_read_104 : decode cX6_read 104 = .ok (.iload_n 1, 1) := by decide +kernel
theorem dX6_read_105 : decode cX6_read 105 = .ok (.iaload, 1) := by decide +kernel
theorem dX6_read_106 : decode cX6_read 106 = .ok (.iadd, 1) := by decide +kernel
theorem dX6_read_107 : decode cX6_read 107 = .ok (.iload_n 2, 1) := by decide +kernel
theorem dX6_read_108 : decode cX6_read 108 = .ok (.iastore, 1) := by decide +kernel
theorem dX6_read_109 : decode cX6_read 109 = .ok (.aload_n 0, 1) := by decide +kernel
theorem dX6_read_110 : decode cX6_read 110 = .ok (.getfield 56, 3) := by decide +kernel
theorem dX6_read_113 : decode cX6_read 113 = .ok (.iload_n 1, 1) := by decide +kernel
theorem dX6_read_114 : decode cX6_read 114 = .ok (.iaload, 1) := by decide +kernel
theorem dX6_read_115 : decode cX6_read 115 = .ok (.bipush 12, 2) := by decide +kernel
theorem dX6_read_117 : decode cX6_read 117 = .ok (.if_icmp .ge 16, 3) := by decide +kernel
theorem dX6_read_120 : decode cX6_read 120 = .ok (.aload_n 0, 1) := by decide +kernel
theorem dX6_read_121 : decode cX6_read 121 = .ok (.getfield 56, 3) := by decide +kernel
theorem dX6_read_124 : decode cX6_read 124 = .ok (.iload_n 1, 1) := by decide +kernel
theorem dX6_read_125 : decode cX6_read 125 = .ok (.dup2, 1) := by decide +kernel
theorem dX6_read_126 : decode cX6_read 126 = .ok (.iaload, 1) := by decide +kernel
theorem dX6_read_127 : decode cX6_read 127 = .ok (.iconst 1, 1) := by decide +kernel
theorem dX6_read_128 : decode cX6_read 128 = .ok (.iadd, 1) := by decide +kernel
theorem dX6_read_129 : decode cX6_read 129 = .ok (.iastore, 1) := by decide +kernel
theorem dX6_read_130 : decode cX6_read 130 = .ok (.goto 59, 3) := by decide +kernel
theorem dX6_read_133 : decode cX6_read 133 = .ok (.iconst 1, 1) := by decide +kernel
theorem dX6_read_134 : decode cX6_read 134 = .ok (.istore 4, 2) := by decide +kernel
theorem dX6_read_136 : decode cX6_read 136 = .ok (.iload 4, 2) := by decide +kernel
theorem dX6_read_138 : decode cX6_read 138 = .ok (.bipush 12, 2) := by decide +kernel
theorem dX6_read_140 : decode cX6_read 140 = .ok (.if_icmp .ge 49, 3) := by decide +kernel
theorem dX6_read_143 : decode cX6_read 143 = .ok (.aload_n 0, 1) := by decide +kernel
theorem dX6_read_144 : decode cX6_read 144 = .ok (.getfield 59, 3) := by decide +kernel
theorem dX6_read_147 : decode cX6_read 147 = .ok (.iload_n 3, 1) := by decide +kernel
theorem dX6_read_148 : decode cX6_read 148 = .ok (.iload 4, 2) := by decide +kernel
theorem dX6_read_150 : decode cX6_read 150 = .ok (.iadd, 1) := by decide +kernel
theorem dX6_read_151 : decode cX6_read 151 = .ok (.aload_n 0, 1) := by decide +kernel
theorem dX6_read_152 : decode cX6_read 152 = .ok (.getfield 59, 3) := by decide +kernel
theorem dX6_read_155 : decode cX6_read 155 = .ok (.iload_n 3, 1) := by decide +kernel
theorem dX6_read_156 : decode cX6_read 156 = .ok (.iload 4, 2) := by decide +kernel
theorem dX6_read_158 : decode cX6_read 158 = .ok (.iadd, 1) := by decide +kernel
theorem dX6_read_159 : decode cX6_read 159 = .ok (.iconst 1, 1) := by decide +kernel
theorem dX6_read_160 : decode cX6_read 160 = .ok (.iadd, 1) := by decide +kernel
theorem dX6_read_161 : decode cX6_read 161 = .ok (.iaload, 1) := by decide +kernel
theorem dX6_read_162 : decode cX6_read 162 = .ok (.iastore, 1) := by decide +kernel
theorem dX6_read_163 : decode cX6_read 163 = .ok (.aload_n 0, 1) := by decide +kernel
theorem dX6_read_164 : decode cX6_read 164 = .ok (.getfield 62, 3) := by decide +kernel
theorem dX6_read_167 : decode cX6_read 167 = .ok (.iload_n 3, 1) := by decide +kernel
theorem dX6_read_168 : decode cX6_read 168 = .ok (.iload 4, 2) := by decide +kernel
theorem dX6_read_170 : decode cX6_read 170 = .ok (.iadd, 1) := by decide +kernel
theorem dX6_read_171 : decode cX6_read 171 = .ok (.aload_n 0, 1) := by decide +kernel
theorem dX6_read_172 : decode cX6_read 172 = .ok (.getfield 62, 3) := by decide +kernel
theorem dX6_read_175 : decode cX6_read 175 = .ok (.iload_n 3, 1) := by decide +kernel
theorem dX6_read_176 : decode cX6_read 176 = .ok (.iload 4, 2) := by decide +kernel
theorem dX6_read_178 : decode cX6_read 178 = .ok (.iadd, 1) := by decide +kernel
theorem dX6_read_179 : decode cX6_read 179 = .ok (.iconst 1, 1) := by decide +kernel
theorem dX6_read_180 : decode cX6_read 180 = .ok (.iadd, 1) := by decide +kernel
theorem dX6_read_181 : decode cX6_read 181 = .ok (.iaload, 1) := by decide +kernel
theorem dX6_read_182 : decode cX6_read 182 = .ok (.iastore, 1) := by decide +kernel
theorem dX6_read_183 : decode cX6_read 183 = .ok (.iinc 4 1, 3) := by decide +kernel
theorem dX6_read_186 : decode cX6_read 186 = .ok (.goto (-50), 3) := by decide +kernel
theorem dX6_read_189 : decode cX6_read 189 = .ok (.aload_n 0, 1) := by decide +kernel
theorem dX6_read_190 : decode cX6_read 190 = .ok (.getfield 56, 3) := by decide +kernel
theorem dX6_read_193 : decode cX6_read 193 = .ok (.iload_n 1, 1) := by decide +kernel
theorem dX6_read_194 : decode cX6_read 194 = .ok (.iaload, 1) := by decide +kernel
theorem dX6_read_195 : decode cX6_read 195 = .ok (.ireturn, 1) := by decide +kernel
theorem dX6_wearOf_0 : decode cX6_wearOf 0 = .ok (.aload_n 0, 1) := by decide +kernel
theorem dX6_wearOf_1 : decode cX6_wearOf 1 = .ok (.getfield 56, 3) := by decide +kernel
theorem dX6_wearOf_4 : decode cX6_wearOf 4 = .ok (.iload_n 1, 1) := by decide +kernel
theorem dX6_wearOf_5 : decode cX6_wearOf 5 = .ok (.iaload, 1) := by decide +kernel
theorem dX6_wearOf_6 : decode cX6_wearOf 6 = .ok (.istore_n 2, 1) := by decide +kernel
theorem dX6_wearOf_7 : decode cX6_wearOf 7 = .ok (.lconst 0, 1) := by decide +kernel
theorem dX6_wearOf_8 : decode cX6_wearOf 8 = .ok (.lstore_n 3, 1) := by decide +kernel
theorem dX6_wearOf_9 : decode cX6_wearOf 9 = .ok (.lconst 0, 1) := by decide +kernel
theorem dX6_wearOf_10 : decode cX6_wearOf 10 = .ok (.lstore 5, 2) := by decide +kernel
theorem dX6_wearOf_12 : decode cX6_wearOf 12 = .ok (.lconst 0, 1) := by decide +kernel
theorem dX6_wearOf_13 : decode cX6_wearOf 13 = .ok (.lstore 7, 2) := by decide +kernel
theorem dX6_wearOf_15 : decode cX6_wearOf 15 = .ok (.lconst 0, 1) := by decide +kernel
theorem dX6_wearOf_16 : decode cX6_wearOf 16 = .ok (.lstore 9, 2) := by decide +kernel
theorem dX6_wearOf_18 : decode cX6_wearOf 18 = .ok (.iconst 0, 1) := by decide +kernel
theorem dX6_wearOf_19 : decode cX6_wearOf 19 = .ok (.istore 11, 2) := by decide +kernel
theorem dX6_wearOf_21 : decode cX6_wearOf 21 = .ok (.iload 11, 2) := by decide +kernel
theorem dX6_wearOf_23 : decode cX6_wearOf 23 = .ok (.iload_n 2, 1) := by decide +kernel
theorem dX6_wearOf_24 : decode cX6_wearOf 24 = .ok (.if_icmp .ge 71, 3) := by decide +kernel
theorem dX6_wearOf_27 : decode cX6_wearOf 27 = .ok (.aload_n 0, 1) := by decide +kernel
theorem dX6_wearOf_28 : decode cX6_wearOf 28 = .ok (.getfield 59, 3) := by decide +kernel
theorem dX6_wearOf_31 : decode cX6_wearOf 31 = .ok (.bipush 13, 2) := by decide +kernel
theorem dX6_wearOf_33 : decode cX6_wearOf 33 = .ok (.iload_n 1, 1) := by decide +kernel
theorem dX6_wearOf_34 : decode cX6_wearOf 34 = .ok (.imul, 1) := by decide +kernel
theorem dX6_wearOf_35 : decode cX6_wearOf 35 = .ok (.iload 11, 2) := by decide +kernel
theorem dX6_wearOf_37 : decode cX6_wearOf 37 = .ok (.iadd, 1) := by decide +kernel
theorem dX6_wearOf_38 : decode cX6_wearOf 38 = .ok (.iaload, 1) := by decide +kernel
theorem dX6_wearOf_39 : decode cX6_wearOf 39 = .ok (.i2l, 1) := by decide +kernel
theorem dX6_wearOf_40 : decode cX6_wearOf 40 = .ok (.lstore 12, 2) := by decide +kernel
theorem dX6_wearOf_42 : decode cX6_wearOf 42 = .ok (.aload_n 0, 1) := by decide +kernel
theorem dX6_wearOf_43 : decode cX6_wearOf 43 = .ok (.getfield 62, 3) := by decide +kernel
theorem dX6_wearOf_46 : decode cX6_wearOf 46 = .ok (.bipush 13, 2) := by decide +kernel
theorem dX6_wearOf_48 : decode cX6_wearOf 48 = .ok (.iload_n 1, 1) := by decide +kernel
theorem dX6_wearOf_49 : decode cX6_wearOf 49 = .ok (.imul, 1) := by decide +kernel
theorem dX6_wearOf_50 : decode cX6_wearOf 50 = .ok (.iload 11, 2) := by decide +kernel
theorem dX6_wearOf_52 : decode cX6_wearOf 52 = .ok (.iadd, 1) := by decide +kernel
theorem dX6_wearOf_53 : decode cX6_wearOf 53 = .ok (.iaload, 1) := by decide +kernel
theorem dX6_wearOf_54 : decode cX6_wearOf 54 = .ok (.i2l, 1) := by decide +kernel
theorem dX6_wearOf_55 : decode cX6_wearOf 55 = .ok (.lstore 14, 2) := by decide +kernel
theorem dX6_wearOf_57 : decode cX6_wearOf 57 = .ok (.lload_n 3, 1) := by decide +kernel
theorem dX6_wearOf_58 : decode cX6_wearOf 58 = .ok (.lload 12, 2) := by decide +kernel
theorem dX6_wearOf_60 : decode cX6_wearOf 60 = .ok (.ladd, 1) := by decide +kernel
theorem dX6_wearOf_61 : decode cX6_wearOf 61 = .ok (.lstore_n 3, 1) := by decide +kernel
theorem dX6_wearOf_62 : decode cX6_wearOf 62 = .ok (.lload 5, 2) := by decide +kernel
theorem dX6_wearOf_64 : decode cX6_wearOf 64 = .ok (.lload 14, 2) := by decide +kernel
theorem dX6_wearOf_66 : decode cX6_wearOf 66 = .ok (.ladd, 1) := by decide +kernel
theorem dX6_wearOf_67 : decode cX6_wearOf 67 = .ok (.lstore 5, 2) := by decide +kernel
theorem dX6_wearOf_69 : decode cX6_wearOf 69 = .ok (.lload 7, 2) := by decide +kernel
theorem dX6_wearOf_71 : decode cX6_wearOf 71 = .ok (.lload 12, 2) := by decide +kernel
theorem dX6_wearOf_73 : decode cX6_wearOf 73 = .ok (.lload 12, 2) := by decide +kernel
theorem dX6_wearOf_75 : decode cX6_wearOf 75 = .ok (.lmul, 1) := by decide +kernel
theorem dX6_wearOf_76 : decode cX6_wearOf 76 = .ok (.ladd, 1) := by decide +kernel
theorem dX6_wearOf_77 : decode cX6_wearOf 77 = .ok (.lstore 7, 2) := by decide +kernel
theorem dX6_wearOf_79 : decode cX6_wearOf 79 = .ok (.lload 9, 2) := by decide +kernel
theorem dX6_wearOf_81 : decode cX6_wearOf 81 = .ok (.lload 12, 2) := by decide +kernel
theorem dX6_wearOf_83 : decode cX6_wearOf 83 = .ok (.lload 14, 2) := by decide +kernel
theorem dX6_wearOf_85 : decode cX6_wearOf 85 = .ok (.lmul, 1) := by decide +kernel
theorem dX6_wearOf_86 : decode cX6_wearOf 86 = .ok (.ladd, 1) := by decide +kernel
theorem dX6_wearOf_87 : decode cX6_wearOf 87 = .ok (.lstore 9, 2) := by decide +kernel
theorem dX6_wearOf_89 : decode cX6_wearOf 89 = .ok (.iinc 11 1, 3) := by decide +kernel
theorem dX6_wearOf_92 : decode cX6_wearOf 92 = .ok (.goto (-71), 3) := by decide +kernel
theorem dX6_wearOf_95 : decode cX6_wearOf 95 = .ok (.aload_n 0, 1) := by decide +kernel
theorem dX6_wearOf_96 : decode cX6_wearOf 96 = .ok (.lload_n 3, 1) := by decide +kernel
theorem dX6_wearOf_97 : decode cX6_wearOf 97 = .ok (.lload 5, 2) := by decide +kernel
theorem dX6_wearOf_99 : decode cX6_wearOf 99 = .ok (.lmul, 1) := by decide +kernel
theorem dX6_wearOf_100 : decode cX6_wearOf 100 = .ok (.iload_n 2, 1) := by decide +kernel
theorem dX6_wearOf_101 : decode cX6_wearOf 101 = .ok (.i2l, 1) := by decide +kernel
theorem dX6_wearOf_102 : decode cX6_wearOf 102 = .ok (.lload 9, 2) := by decide +kernel
theorem dX6_wearOf_104 : decode cX6_wearOf 104 = .ok (.lmul, 1) := by decide +kernel
theorem dX6_wearOf_105 : decode cX6_wearOf 105 = .ok (.lsub, 1) := by decide +kernel
theorem dX6_wearOf_106 : decode cX6_wearOf 106 = .ok (.putfield 128, 3) := by decide +kernel
theorem dX6_wearOf_109 : decode cX6_wearOf 109 = .ok (.aload_n 0, 1) := by decide +kernel
theorem dX6_wearOf_110 : decode cX6_wearOf 110 = .ok (.iload_n 2, 1) := by decide +kernel
theorem dX6_wearOf_111 : decode cX6_wearOf 111 = .ok (.i2l, 1) := by decide +kernel
theorem dX6_wearOf_112 : decode cX6_wearOf 112 = .ok (.lload 7, 2) := by decide +kernel
theorem dX6_wearOf_114 : decode cX6_wearOf 114 = .ok (.lmul, 1) := by decide +kernel
theorem dX6_wearOf_115 : decode cX6_wearOf 115 = .ok (.lload_n 3, 1) := by decide +kernel
theorem dX6_wearOf_116 : decode cX6_wearOf 116 = .ok (.lload_n 3, 1) := by decide +kernel
theorem dX6_wearOf_117 : decode cX6_wearOf 117 = .ok (.lmul, 1) := by decide +kernel
theorem dX6_wearOf_118 : decode cX6_wearOf 118 = .ok (.lsub, 1) := by decide +kernel
theorem dX6_wearOf_119 : decode cX6_wearOf 119 = .ok (.putfield 132, 3) := by decide +kernel
theorem dX6_wearOf_122 : decode cX6_wearOf 122 = .ok (.aload_n 0, 1) := by decide +kernel
theorem dX6_wearOf_123 : decode cX6_wearOf 123 = .ok (.getfield 132, 3) := by decide +kernel
theorem dX6_wearOf_126 : decode cX6_wearOf 126 = .ok (.lconst 0, 1) := by decide +kernel
theorem dX6_wearOf_127 : decode cX6_wearOf 127 = .ok (.lcmp, 1) := by decide +kernel
theorem dX6_wearOf_128 : decode cX6_wearOf 128 = .ok (.ifCond .ne 26, 3) := by decide +kernel
theorem dX6_wearOf_131 : decode cX6_wearOf 131 = .ok (.aload_n 0, 1) := by decide +kernel
theorem dX6_wearOf_132 : decode cX6_wearOf 132 = .ok (.aload_n 0, 1) := by decide +kernel
theorem dX6_wearOf_133 : decode cX6_wearOf 133 = .ok (.getfield 16, 3) := by decide +kernel
theorem dX6_wearOf_136 : decode cX6_wearOf 136 = .ok (.aload_n 0, 1) := by decide +kernel
theorem dX6_wearOf_137 : decode cX6_wearOf 137 = .ok (.getfield 35, 3) := by decide +kernel
theorem dX6_wearOf_140 : decode cX6_wearOf 140 = .ok (.iload_n 1, 1) := by decide +kernel
theorem dX6_wearOf_141 : decode cX6_wearOf 141 = .ok (.iaload, 1) := by decide +kernel
theorem dX6_wearOf_142 : decode cX6_wearOf 142 = .ok (.iaload, 1) := by decide +kernel
theorem dX6_wearOf_143 : decode cX6_wearOf 143 = .ok (.i2l, 1) := by decide +kernel
theorem dX6_wearOf_144 : decode cX6_wearOf 144 = .ok (.putfield 128, 3) := by decide +kernel
theorem dX6_wearOf_147 : decode cX6_wearOf 147 = .ok (.aload_n 0, 1) := by decide +kernel
theorem dX6_wearOf_148 : decode cX6_wearOf 148 = .ok (.ldc2_w 135, 3) := by decide +kernel
theorem dX6_wearOf_151 : decode cX6_wearOf 151 = .ok (.putfield 132, 3) := by decide +kernel
theorem dX6_wearOf_154 : decode cX6_wearOf 154 = .ok (.aload_n 0, 1) := by decide +kernel
theorem dX6_wearOf_155 : decode cX6_wearOf 155 = .ok (.getfield 128, 3) := by decide +kernel
theorem dX6_wearOf_158 : decode cX6_wearOf 158 = .ok (.lconst 0, 1) := by decide +kernel
theorem dX6_wearOf_159 : decode cX6_wearOf 159 = .ok (.lcmp, 1) := by decide +kernel
theorem dX6_wearOf_160 : decode cX6_wearOf 160 = .ok (.ifCond .gt 14, 3) := by decide +kernel
theorem dX6_wearOf_163 : decode cX6_wearOf 163 = .ok (.aload_n 0, 1) := by decide +kernel
theorem dX6_wearOf_164 : decode cX6_wearOf 164 = .ok (.lconst 0, 1) := by decide +kernel
theorem dX6_wearOf_165 : decode cX6_wearOf 165 = .ok (.putfield 128, 3) := by decide +kernel
theorem dX6_wearOf_168 : decode cX6_wearOf 168 = .ok (.aload_n 0, 1) := by decide +kernel
theorem dX6_wearOf_169 : decode cX6_wearOf 169 = .ok (.lconst 1, 1) := by decide +kernel
theorem dX6_wearOf_170 : decode cX6_wearOf 170 = .ok (.putfield 132, 3) := by decide +kernel
theorem dX6_wearOf_173 : decode cX6_wearOf 173 = .ok (.return_, 1) := by decide +kernel
theorem dX6_wearOf_174 : decode cX6_wearOf 174 = .ok (.aload_n 0, 1) := by decide +kernel
theorem dX6_wearOf_175 : decode cX6_wearOf 175 = .ok (.getfield 128, 3) := by decide +kernel
theorem dX6_wearOf_178 : decode cX6_wearOf 178 = .ok (.lstore 11, 2) := by decide +kernel
theorem dX6_wearOf_180 : decode cX6_wearOf 180 = .ok (.aload_n 0, 1) := by decide +kernel
theorem dX6_wearOf_181 : decode cX6_wearOf 181 = .ok (.getfield 132, 3) := by decide +kernel
theorem dX6_wearOf_184 : decode cX6_wearOf 184 = .ok (.lstore 13, 2) := by decide +kernel
theorem dX6_wearOf_186 : decode cX6_wearOf 186 = .ok (.lload 13, 2) := by decide +kernel
theorem dX6_wearOf_188 : decode cX6_wearOf 188 = .ok (.lconst 0, 1) := by decide +kernel
theorem dX6_wearOf_189 : decode cX6_wearOf 189 = .ok (.lcmp, 1) := by decide +kernel
theorem dX6_wearOf_190 : decode cX6_wearOf 190 = .ok (.ifCond .eq 21, 3) := by decide +kernel
theorem dX6_wearOf_193 : decode cX6_wearOf 193 = .ok (.lload 11, 2) := by decide +kernel
theorem dX6_wearOf_195 : decode cX6_wearOf 195 = .ok (.lload 13, 2) := by decide +kernel
theorem dX6_wearOf_197 : decode cX6_wearOf 197 = .ok (.lrem, 1) := by decide +kernel
theorem dX6_wearOf_198 : decode cX6_wearOf 198 = .ok (.lstore 15, 2) := by decide +kernel
theorem dX6_wearOf_200 : decode cX6_wearOf 200 = .ok (.lload 13, 2) := by decide +kernel
theorem dX6_wearOf_202 : decode cX6_wearOf 202 = .ok (.lstore 11, 2) := by decide +kernel
theorem dX6_wearOf_204 : decode cX6_wearOf 204 = .ok (.lload 15, 2) := by decide +kernel
theorem dX6_wearOf_206 : decode cX6_wearOf 206 = .ok (.lstore 13, 2) := by decide +kernel
theorem dX6_wearOf_208 : decode cX6_wearOf 208 = .ok (.goto (-22), 3) := by decide +kernel
theorem dX6_wearOf_211 : decode cX6_wearOf 211 = .ok (.aload_n 0, 1) := by decide +kernel
theorem dX6_wearOf_212 : decode cX6_wearOf 212 = .ok (.dup, 1) := by decide +kernel
theorem dX6_wearOf_213 : decode cX6_wearOf 213 = .ok (.getfield 128, 3) := by decide +kernel
theorem dX6_wearOf_216 : decode cX6_wearOf 216 = .ok (.lload 11, 2) := by decide +kernel
theorem dX6_wearOf_218 : decode cX6_wearOf 218 = .ok (.ldiv, 1) := by decide +kernel
theorem dX6_wearOf_219 : decode cX6_wearOf 219 = .ok (.putfield 128, 3) := by decide +kernel
theorem dX6_wearOf_222 : decode cX6_wearOf 222 = .ok (.aload_n 0, 1) := by decide +kernel
theorem dX6_wearOf_223 : decode cX6_wearOf 223 = .ok (.dup, 1) := by decide +kernel
theorem dX6_wearOf_224 : decode cX6_wearOf 224 = .ok (.getfield 132, 3) := by decide +kernel
theorem dX6_wearOf_227 : decode cX6_wearOf 227 = .ok (.lload 11, 2) := by decide +kernel
theorem dX6_wearOf_229 : decode cX6_wearOf 229 = .ok (.ldiv, 1) := by decide +kernel
theorem dX6_wearOf_230 : decode cX6_wearOf 230 = .ok (.putfield 132, 3) := by decide +kernel
theorem dX6_wearOf_233 : decode cX6_wearOf 233 = .ok (.return_, 1) := by decide +kernel
theorem dX6_lastOf_0 : decode cX6_lastOf 0 = .ok (.bipush 13, 2) := by decide +kernel
theorem dX6_lastOf_2 : decode cX6_lastOf 2 = .ok (.iload_n 1, 1) := by decide +kernel
theorem dX6_lastOf_3 : decode cX6_lastOf 3 = .ok (.imul, 1) := by decide +kernel
theorem dX6_lastOf_4 : decode cX6_lastOf 4 = .ok (.aload_n 0, 1) := by decide +kernel
theorem dX6_lastOf_5 : decode cX6_lastOf 5 = .ok (.getfield 56, 3) := by decide +kernel
theorem dX6_lastOf_8 : decode cX6_lastOf 8 = .ok (.iload_n 1, 1) := by decide +kernel
theorem dX6_lastOf_9 : decode cX6_lastOf 9 = .ok (.iaload, 1) := by decide +kernel
theorem dX6_lastOf_10 : decode cX6_lastOf 10 = .ok (.iadd, 1) := by decide +kernel
theorem dX6_lastOf_11 : decode cX6_lastOf 11 = .ok (.iconst 1, 1) := by decide +kernel
theorem dX6_lastOf_12 : decode cX6_lastOf 12 = .ok (.isub, 1) := by decide +kernel
theorem dX6_lastOf_13 : decode cX6_lastOf 13 = .ok (.ireturn, 1) := by decide +kernel
theorem dX6_depthOf_0 : decode cX6_depthOf 0 = .ok (.aload_n 0, 1) := by decide +kernel
theorem dX6_depthOf_1 : decode cX6_depthOf 1 = .ok (.iload_n 1, 1) := by decide +kernel
theorem dX6_depthOf_2 : decode cX6_depthOf 2 = .ok (.invokevirtual 137, 3) := by decide +kernel
theorem dX6_depthOf_5 : decode cX6_depthOf 5 = .ok (.aload_n 0, 1) := by decide +kernel
theorem dX6_depthOf_6 : decode cX6_depthOf 6 = .ok (.getfield 47, 3) := by decide +kernel
theorem dX6_depthOf_9 : decode cX6_depthOf 9 = .ok (.iload_n 1, 1) := by decide +kernel
theorem dX6_depthOf_10 : decode cX6_depthOf 10 = .ok (.iaload, 1) := by decide +kernel
theorem dX6_depthOf_11 : decode cX6_depthOf 11 = .ok (.i2l, 1) := by decide +kernel
theorem dX6_depthOf_12 : decode cX6_depthOf 12 = .ok (.iload_n 2, 1) := by decide +kernel
theorem dX6_depthOf_13 : decode cX6_depthOf 13 = .ok (.i2l, 1) := by decide +kernel
theorem dX6_depthOf_14 : decode cX6_depthOf 14 = .ok (.ladd, 1) := by decide +kernel
theorem dX6_depthOf_15 : decode cX6_depthOf 15 = .ok (.aload_n 0, 1) := by decide +kernel
theorem dX6_depthOf_16 : decode cX6_depthOf 16 = .ok (.getfield 59, 3) := by decide +kernel
theorem dX6_depthOf_19 : decode cX6_depthOf 19 = .ok (.aload_n 0, 1) := by decide +kernel
theorem dX6_depthOf_20 : decode cX6_depthOf 20 = .ok (.iload_n 1, 1) := by decide +kernel
theorem dX6_depthOf_21 : decode cX6_depthOf 21 = .ok (.invokevirtual 140, 3) := by decide +kernel
theorem dX6_depthOf_24 : decode cX6_depthOf 24 = .ok (.iaload, 1) := by decide +kernel
theorem dX6_depthOf_25 : decode cX6_depthOf 25 = .ok (.i2l, 1) := by decide +kernel
theorem dX6_depthOf_26 : decode cX6_depthOf 26 = .ok (.lsub, 1) := by decide +kernel
theorem dX6_depthOf_27 : decode cX6_depthOf 27 = .ok (.lstore_n 3, 1) := by decide +kernel
theorem dX6_depthOf_28 : decode cX6_depthOf 28 = .ok (.aload_n 0, 1) := by decide +kernel
theorem dX6_depthOf_29 : decode cX6_depthOf 29 = .ok (.getfield 62, 3) := by decide +kernel
theorem dX6_depthOf_32 : decode cX6_depthOf 32 = .ok (.aload_n 0, 1) := by decide +kernel
theorem dX6_depthOf_33 : decode cX6_depthOf 33 = .ok (.iload_n 1, 1) := by decide +kernel
theorem dX6_depthOf_34 : decode cX6_depthOf 34 = .ok (.invokevirtual 140, 3) := by decide +kernel
theorem dX6_depthOf_37 : decode cX6_depthOf 37 = .ok (.iaload, 1) := by decide +kernel
theorem dX6_depthOf_38 : decode cX6_depthOf 38 = .ok (.i2l, 1) := by decide +kernel
theorem dX6_depthOf_39 : decode cX6_depthOf 39 = .ok (.aload_n 0, 1) := by decide +kernel
theorem dX6_depthOf_40 : decode cX6_depthOf 40 = .ok (.getfield 132, 3) := by decide +kernel
theorem dX6_depthOf_43 : decode cX6_depthOf 43 = .ok (.lmul, 1) := by decide +kernel
theorem dX6_depthOf_44 : decode cX6_depthOf 44 = .ok (.aload_n 0, 1) := by decide +kernel
theorem dX6_depthOf_45 : decode cX6_depthOf 45 = .ok (.getfield 128, 3) := by decide +kernel
theorem dX6_depthOf_48 : decode cX6_depthOf 48 = .ok (.lload_n 3, 1) := by decide +kernel
theorem dX6_depthOf_49 : decode cX6_depthOf 49 = .ok (.lmul, 1) := by decide +kernel
theorem dX6_depthOf_50 : decode cX6_depthOf 50 = .ok (.lsub, 1) := by decide +kernel
theorem dX6_depthOf_51 : decode cX6_depthOf 51 = .ok (.aload_n 0, 1) := by decide +kernel
theorem dX6_depthOf_52 : decode cX6_depthOf 52 = .ok (.getfield 132, 3) := by decide +kernel
theorem dX6_depthOf_55 : decode cX6_depthOf 55 = .ok (.invokestatic 143, 3) := by decide +kernel
theorem dX6_depthOf_58 : decode cX6_depthOf 58 = .ok (.lstore 5, 2) := by decide +kernel
theorem dX6_depthOf_60 : decode cX6_depthOf 60 = .ok (.lload 5, 2) := by decide +kernel
theorem dX6_depthOf_62 : decode cX6_depthOf 62 = .ok (.lconst 0, 1) := by decide +kernel
theorem dX6_depthOf_63 : decode cX6_depthOf 63 = .ok (.lcmp, 1) := by decide +kernel
theorem dX6_depthOf_64 : decode cX6_depthOf 64 = .ok (.ifCond .ge 7, 3) := by decide +kernel
theorem dX6_depthOf_67 : decode cX6_depthOf 67 = .ok (.iconst 0, 1) := by decide +kernel
theorem dX6_depthOf_68 : decode cX6_depthOf 68 = .ok (.goto 6, 3) := by decide +kernel
theorem dX6_depthOf_71 : decode cX6_depthOf 71 = .ok (.lload 5, 2) := by decide +kernel
theorem dX6_depthOf_73 : decode cX6_depthOf 73 = .ok (.l2i, 1) := by decide +kernel
theorem dX6_depthOf_74 : decode cX6_depthOf 74 = .ok (.ireturn, 1) := by decide +kernel
theorem dX6_endOf_0 : decode cX6_endOf 0 = .ok (.aload_n 0, 1) := by decide +kernel
theorem dX6_endOf_1 : decode cX6_endOf 1 = .ok (.iload_n 1, 1) := by decide +kernel
theorem dX6_endOf_2 : decode cX6_endOf 2 = .ok (.iconst 0, 1) := by decide +kernel
theorem dX6_endOf_3 : decode cX6_endOf 3 = .ok (.invokevirtual 149, 3) := by decide +kernel
theorem dX6_endOf_6 : decode cX6_endOf 6 = .ok (.iload_n 2, 1) := by decide +kernel
theorem dX6_endOf_7 : decode cX6_endOf 7 = .ok (.if_icmp .ge 5, 3) := by decide +kernel
theorem dX6_endOf_10 : decode cX6_endOf 10 = .ok (.iconst 0, 1) := by decide +kernel
theorem dX6_endOf_11 : decode cX6_endOf 11 = .ok (.ireturn, 1) := by decide +kernel
theorem dX6_endOf_12 : decode cX6_endOf 12 = .ok (.iload_n 2, 1) := by decide +kernel
theorem dX6_endOf_13 : decode cX6_endOf 13 = .ok (.ifCond .eq 12, 3) := by decide +kernel
theorem dX6_endOf_16 : decode cX6_endOf 16 = .ok (.aload_n 0, 1) := by decide +kernel
theorem dX6_endOf_17 : decode cX6_endOf 17 = .ok (.getfield 128, 3) := by decide +kernel
theorem dX6_endOf_20 : decode cX6_endOf 20 = .ok (.lconst 0, 1) := by decide +kernel
theorem dX6_endOf_21 : decode cX6_endOf 21 = .ok (.lcmp, 1) := by decide +kernel
theorem dX6_endOf_22 : decode cX6_endOf 22 = .ok (.ifCond .ne 6, 3) := by decide +kernel
theorem dX6_endOf_25 : decode cX6_endOf 25 = .ok (.ldc 152, 2) := by decide +kernel
theorem dX6_endOf_27 : decode cX6_endOf 27 = .ok (.ireturn, 1) := by decide +kernel
theorem dX6_endOf_28 : decode cX6_endOf 28 = .ok (.aload_n 0, 1) := by decide +kernel
theorem dX6_endOf_29 : decode cX6_endOf 29 = .ok (.getfield 62, 3) := by decide +kernel
theorem dX6_endOf_32 : decode cX6_endOf 32 = .ok (.aload_n 0, 1) := by decide +kernel
theorem dX6_endOf_33 : decode cX6_endOf 33 = .ok (.iload_n 1, 1) := by decide +kernel
theorem dX6_endOf_34 : decode cX6_endOf 34 = .ok (.invokevirtual 140, 3) := by decide +kernel
theorem dX6_endOf_37 : decode cX6_endOf 37 = .ok (.iaload, 1) := by decide +kernel
theorem dX6_endOf_38 : decode cX6_endOf 38 = .ok (.iload_n 2, 1) := by decide +kernel
theorem dX6_endOf_39 : decode cX6_endOf 39 = .ok (.isub, 1) := by decide +kernel
theorem dX6_endOf_40 : decode cX6_endOf 40 = .ok (.i2l, 1) := by decide +kernel
theorem dX6_endOf_41 : decode cX6_endOf 41 = .ok (.aload_n 0, 1) := by decide +kernel
theorem dX6_endOf_42 : decode cX6_endOf 42 = .ok (.getfield 132, 3) := by decide +kernel
theorem dX6_endOf_45 : decode cX6_endOf 45 = .ok (.lmul, 1) := by decide +kernel
theorem dX6_endOf_46 : decode cX6_endOf 46 = .ok (.aload_n 0, 1) := by decide +kernel
theorem dX6_endOf_47 : decode cX6_endOf 47 = .ok (.getfield 128, 3) := by decide +kernel
theorem dX6_endOf_50 : decode cX6_endOf 50 = .ok (.invokestatic 143, 3) := by decide +kernel
theorem dX6_endOf_53 : decode cX6_endOf 53 = .ok (.lstore_n 3, 1) := by decide +kernel
theorem dX6_endOf_54 : decode cX6_endOf 54 = .ok (.ldc2_w 153, 3) := by decide +kernel
theorem dX6_endOf_57 : decode cX6_endOf 57 = .ok (.lload_n 3, 1) := by decide +kernel
theorem dX6_endOf_58 : decode cX6_endOf 58 = .ok (.aload_n 0, 1) := by decide +kernel
theorem dX6_endOf_59 : decode cX6_endOf 59 = .ok (.getfield 47, 3) := by decide +kernel
theorem dX6_endOf_62 : decode cX6_endOf 62 = .ok (.iload_n 1, 1) := by decide +kernel
theorem dX6_endOf_63 : decode cX6_endOf 63 = .ok (.iaload, 1) := by decide +kernel
theorem dX6_endOf_64 : decode cX6_endOf 64 = .ok (.aload_n 0, 1) := by decide +kernel
theorem dX6_endOf_65 : decode cX6_endOf 65 = .ok (.getfield 59, 3) := by decide +kernel
theorem dX6_endOf_68 : decode cX6_endOf 68 = .ok (.aload_n 0, 1) := by decide +kernel
theorem dX6_endOf_69 : decode cX6_endOf 69 = .ok (.iload_n 1, 1) := by decide +kernel
theorem dX6_endOf_70 : decode cX6_endOf 70 = .ok (.invokevirtual 140, 3) := by decide +kernel
theorem dX6_endOf_73 : decode cX6_endOf 73 = .ok (.iaload, 1) := by decide +kernel
theorem dX6_endOf_74 : decode cX6_endOf 74 = .ok (.isub, 1) := by decide +kernel
theorem dX6_endOf_75 : decode cX6_endOf 75 = .ok (.i2l, 1) := by decide +kernel
theorem dX6_endOf_76 : decode cX6_endOf 76 = .ok (.lsub, 1) := by decide +kernel
theorem dX6_endOf_77 : decode cX6_endOf 77 = .ok (.invokestatic 155, 3) := by decide +kernel
theorem dX6_endOf_80 : decode cX6_endOf 80 = .ok (.l2i, 1) := by decide +kernel
theorem dX6_endOf_81 : decode cX6_endOf 81 = .ok (.ireturn, 1) := by decide +kernel
theorem dX6_whyOf_0 : decode cX6_whyOf 0 = .ok (.iconst 0, 1) := by decide +kernel
theorem dX6_whyOf_1 : decode cX6_whyOf 1 = .ok (.istore_n 2, 1) := by decide +kernel
theorem dX6_whyOf_2 : decode cX6_whyOf 2 = .ok (.iload_n 2, 1) := by decide +kernel
theorem dX6_whyOf_3 : decode cX6_whyOf 3 = .ok (.aload_n 0, 1) := by decide +kernel
theorem dX6_whyOf_4 : decode cX6_whyOf 4 = .ok (.getfield 23, 3) := by decide +kernel
theorem dX6_whyOf_7 : decode cX6_whyOf 7 = .ok (.iload_n 1, 1) := by decide +kernel
theorem dX6_whyOf_8 : decode cX6_whyOf 8 = .ok (.iaload, 1) := by decide +kernel
theorem dX6_whyOf_9 : decode cX6_whyOf 9 = .ok (.if_icmp .ge 194, 3) := by decide +kernel
theorem dX6_whyOf_12 : decode cX6_whyOf 12 = .ok (.iload_n 1, 1) := by decide +kernel
theorem dX6_whyOf_13 : decode cX6_whyOf 13 = .ok (.iload_n 2, 1) := by decide +kernel
theorem dX6_whyOf_14 : decode cX6_whyOf 14 = .ok (.invokestatic 97, 3) := by decide +kernel
theorem dX6_whyOf_17 : decode cX6_whyOf 17 = .ok (.istore_n 3, 1) := by decide +kernel
theorem dX6_whyOf_18 : decode cX6_whyOf 18 = .ok (.aload_n 0, 1) := by decide +kernel
theorem dX6_whyOf_19 : decode cX6_whyOf 19 = .ok (.getfield 29, 3) := by decide +kernel
theorem dX6_whyOf_22 : decode cX6_whyOf 22 = .ok (.iload_n 3, 1) := by decide +kernel
theorem dX6_whyOf_23 : decode cX6_whyOf 23 = .ok (.iaload, 1) := by decide +kernel
theorem dX6_whyOf_24 : decode cX6_whyOf 24 = .ok (.istore 4, 2) := by decide +kernel
theorem dX6_whyOf_26 : decode cX6_whyOf 26 = .ok (.iconst 0, 1) := by decide +kernel
theorem dX6_whyOf_27 : decode cX6_whyOf 27 = .ok (.istore 5, 2) := by decide +kernel
theorem dX6_whyOf_29 : decode cX6_whyOf 29 = .ok (.iload 4, 2) := by decide +kernel
theorem dX6_whyOf_31 : decode cX6_whyOf 31 = .ok (.ifCond .ge 23, 3) := by decide +kernel
theorem dX6_whyOf_34 : decode cX6_whyOf 34 = .ok (.aload_n 0, 1) := by decide +kernel
theorem dX6_whyOf_35 : decode cX6_whyOf 35 = .ok (.getfield 26, 3) := by decide +kernel
theorem dX6_whyOf_38 : decode cX6_whyOf 38 = .ok (.iload_n 3, 1) := by decide +kernel
theorem dX6_whyOf_39 : decode cX6_whyOf 39 = .ok (.iaload, 1) := by decide +kernel
theorem dX6_whyOf_40 : decode cX6_whyOf 40 = .ok (.iconst 4, 1) := by decide +kernel
theorem dX6_whyOf_41 : decode cX6_whyOf 41 = .ok (.if_icmp .ne 7, 3) := by decide +kernel
theorem dX6_whyOf_44 : decode cX6_whyOf 44 = .ok (.iconst 0, 1) := by decide +kernel
theorem dX6_whyOf_45 : decode cX6_whyOf 45 = .ok (.goto 4, 3) := by decide +kernel
theorem dX6_whyOf_48 : decode cX6_whyOf 48 = .ok (.iconst 1, 1) := by decide +kernel
theorem dX6_whyOf_49 : decode cX6_whyOf 49 = .ok (.istore 5, 2) := by decide +kernel
theorem dX6_whyOf_51 : decode cX6_whyOf 51 = .ok (.goto 133, 3) := by decide +kernel
theorem dX6_whyOf_54 : decode cX6_whyOf 54 = .ok (.aload_n 0, 1) := by decide +kernel
theorem dX6_whyOf_55 : decode cX6_whyOf 55 = .ok (.getfield 26, 3) := by decide +kernel
theorem dX6_whyOf_58 : decode cX6_whyOf 58 = .ok (.iload_n 3, 1) := by decide +kernel
theorem dX6_whyOf_59 : decode cX6_whyOf 59 = .ok (.iaload, 1) := by decide +kernel
theorem dX6_whyOf_60 : decode cX6_whyOf 60 = .ok (.ifCond .ne 19, 3) := by decide +kernel
theorem dX6_whyOf_63 : decode cX6_whyOf 63 = .ok (.aload_n 0, 1) := by decide +kernel
theorem dX6_whyOf_64 : decode cX6_whyOf 64 = .ok (.getfield 41, 3) := by decide +kernel
theorem dX6_whyOf_67 : decode cX6_whyOf 67 = .ok (.iload 4, 2) := by decide +kernel
theorem dX6_whyOf_69 : decode cX6_whyOf 69 = .ok (.iaload, 1) := by decide +kernel
theorem dX6_whyOf_70 : decode cX6_whyOf 70 = .ok (.ifCond .le 9, 3) := by decide +kernel
theorem dX6_whyOf_73 : decode cX6_whyOf 73 = .ok (.iconst 2, 1) := by decide +kernel
theorem dX6_whyOf_74 : decode cX6_whyOf 74 = .ok (.istore 5, 2) := by decide +kernel
theorem dX6_whyOf_76 : decode cX6_whyOf 76 = .ok (.goto 108, 3) := by decide +kernel
theorem dX6_whyOf_79 : decode cX6_whyOf 79 = .ok (.aload_n 0, 1) := by decide +kernel
theorem dX6_whyOf_80 : decode cX6_whyOf 80 = .ok (.iload 4, 2) := by decide +kernel
theorem dX6_whyOf_82 : decode cX6_whyOf 82 = .ok (.iconst 0, 1) := by decide +kernel
theorem dX6_whyOf_83 : decode cX6_whyOf 83 = .ok (.invokevirtual 149, 3) := by decide +kernel
theorem dX6_whyOf_86 : decode cX6_whyOf 86 = .ok (.aload_n 0, 1) := by decide +kernel
theorem dX6_whyOf_87 : decode cX6_whyOf 87 = .ok (.getfield 13, 3) := by decide +kernel
theorem dX6_whyOf_90 : decode cX6_whyOf 90 = .ok (.aload_n 0, 1) := by decide +kernel
theorem dX6_whyOf_91 : decode cX6_whyOf 91 = .ok (.getfield 26, 3) := by decide +kernel
theorem dX6_whyOf_94 : decode cX6_whyOf 94 = .ok (.iload_n 3, 1) := by decide +kernel
theorem dX6_whyOf_95 : decode cX6_whyOf 95 = .ok (.iaload, 1) := by decide +kernel
theorem dX6_whyOf_96 : decode cX6_whyOf 96 = .ok (.iaload, 1) := by decide +kernel
theorem dX6_whyOf_97 : decode cX6_whyOf 97 = .ok (.if_icmp .ge 9, 3) := by decide +kernel
theorem dX6_whyOf_100 : decode cX6_whyOf 100 = .ok (.iconst 3, 1) := by decide +kernel
theorem dX6_whyOf_101 : decode cX6_whyOf 101 = .ok (.istore 5, 2) := by decide +kernel
theorem dX6_whyOf_103 : decode cX6_whyOf 103 = .ok (.goto 81, 3) := by decide +kernel
theorem dX6_whyOf_106 : decode cX6_whyOf 106 = .ok (.aload_n 0, 1) := by decide +kernel
theorem dX6_whyOf_107 : decode cX6_whyOf 107 = .ok (.getfield 26, 3) := by decide +kernel
theorem dX6_whyOf_110 : decode cX6_whyOf 110 = .ok (.iload_n 3, 1) := by decide +kernel
theorem dX6_whyOf_111 : decode cX6_whyOf 111 = .ok (.iaload, 1) := by decide +kernel
theorem dX6_whyOf_112 : decode cX6_whyOf 112 = .ok (.iconst 2, 1) := by decide +kernel
theorem dX6_whyOf_113 : decode cX6_whyOf 113 = .ok (.if_icmp .ne 71, 3) := by decide +kernel
theorem dX6_whyOf_116 : decode cX6_whyOf 116 = .ok (.aload_n 0, 1) := by decide +kernel
theorem dX6_whyOf_117 : decode cX6_whyOf 117 = .ok (.getfield 32, 3) := by decide +kernel
theorem dX6_whyOf_120 : decode cX6_whyOf 120 = .ok (.iload_n 3, 1) := by decide +kernel
theorem dX6_whyOf_121 : decode cX6_whyOf 121 = .ok (.iaload, 1) := by decide +kernel
theorem dX6_whyOf_122 : decode cX6_whyOf 122 = .ok (.ifCond .lt 62, 3) := by decide +kernel
theorem dX6_whyOf_125 : decode cX6_whyOf 125 = .ok (.aload_n 0, 1) := by decide +kernel
theorem dX6_whyOf_126 : decode cX6_whyOf 126 = .ok (.getfield 29, 3) := by decide +kernel
theorem dX6_whyOf_129 : decode cX6_whyOf 129 = .ok (.iload_n 1, 1) := by decide +kernel
theorem dX6_whyOf_130 : decode cX6_whyOf 130 = .ok (.aload_n 0, 1) := by decide +kernel
theorem dX6_whyOf_131 : decode cX6_whyOf 131 = .ok (.getfield 32, 3) := by decide +kernel
theorem dX6_whyOf_134 : decode cX6_whyOf 134 = .ok (.iload_n 3, 1) := by decide +kernel
theorem dX6_whyOf_135 : decode cX6_whyOf 135 = .ok (.iaload, 1) := by decide +kernel
theorem dX6_whyOf_136 : decode cX6_whyOf 136 = .ok (.invokestatic 97, 3) := by decide +kernel
theorem dX6_whyOf_139 : decode cX6_whyOf 139 = .ok (.iaload, 1) := by decide +kernel
theorem dX6_whyOf_140 : decode cX6_whyOf 140 = .ok (.ifCond .lt 44, 3) := by decide +kernel
theorem dX6_whyOf_143 : decode cX6_whyOf 143 = .ok (.aload_n 0, 1) := by decide +kernel
theorem dX6_whyOf_144 : decode cX6_whyOf 144 = .ok (.iload 4, 2) := by decide +kernel
theorem dX6_whyOf_146 : decode cX6_whyOf 146 = .ok (.iconst 0, 1) := by decide +kernel
theorem dX6_whyOf_147 : decode cX6_whyOf 147 = .ok (.invokevirtual 149, 3) := by decide +kernel
theorem dX6_whyOf_150 : decode cX6_whyOf 150 = .ok (.aload_n 0, 1) := by decide +kernel
theorem dX6_whyOf_151 : decode cX6_whyOf 151 = .ok (.aload_n 0, 1) := by decide +kernel
theorem dX6_whyOf_152 : decode cX6_whyOf 152 = .ok (.getfield 29, 3) := by decide +kernel
theorem dX6_whyOf_155 : decode cX6_whyOf 155 = .ok (.iload_n 1, 1) := by decide +kernel
theorem dX6_whyOf_156 : decode cX6_whyOf 156 = .ok (.aload_n 0, 1) := by decide +kernel
theorem dX6_whyOf_157 : decode cX6_whyOf 157 = .ok (.getfield 32, 3) := by decide +kernel
theorem dX6_whyOf_160 : decode cX6_whyOf 160 = .ok (.iload_n 3, 1) := by decide +kernel
theorem dX6_whyOf_161 : decode cX6_whyOf 161 = .ok (.iaload, 1) := by decide +kernel
theorem dX6_whyOf_162 : decode cX6_whyOf 162 = .ok (.invokestatic 97, 3) := by decide +kernel
theorem dX6_whyOf_165 : decode cX6_whyOf 165 = .ok (.iaload, 1) := by decide +kernel
theorem dX6_whyOf_166 : decode cX6_whyOf 166 = .ok (.iconst 0, 1) := by decide +kernel
theorem dX6_whyOf_167 : decode cX6_whyOf 167 = .ok (.invokevirtual 149, 3) := by decide +kernel
theorem dX6_whyOf_170 : decode cX6_whyOf 170 = .ok (.isub, 1) := by decide +kernel
theorem dX6_whyOf_171 : decode cX6_whyOf 171 = .ok (.invokestatic 158, 3) := by decide +kernel
theorem dX6_whyOf_174 : decode cX6_whyOf 174 = .ok (.aload_n 0, 1) := by decide +kernel
theorem dX6_whyOf_175 : decode cX6_whyOf 175 = .ok (.getfield 19, 3) := by decide +kernel
theorem dX6_whyOf_178 : decode cX6_whyOf 178 = .ok (.if_icmp .le 6, 3) := by decide +kernel
theorem dX6_whyOf_181 : decode cX6_whyOf 181 = .ok (.iconst 4, 1) := by decide +kernel
theorem dX6_whyOf_182 : decode cX6_whyOf 182 = .ok (.istore 5, 2) := by decide +kernel
theorem dX6_whyOf_184 : decode cX6_whyOf 184 = .ok (.iload 5, 2) := by decide +kernel
theorem dX6_whyOf_186 : decode cX6_whyOf 186 = .ok (.ifCond .le 11, 3) := by decide +kernel
theorem dX6_whyOf_189 : decode cX6_whyOf 189 = .ok (.bipush 10, 2) := by decide +kernel
theorem dX6_whyOf_191 : decode cX6_whyOf 191 = .ok (.iload_n 2, 1) := by decide +kernel
theorem dX6_whyOf_192 : decode cX6_whyOf 192 = .ok (.imul, 1) := by decide +kernel
theorem dX6_whyOf_193 : decode cX6_whyOf 193 = .ok (.iload 5, 2) := by decide +kernel
theorem dX6_whyOf_195 : decode cX6_whyOf 195 = .ok (.iadd, 1) := by decide +kernel
theorem dX6_whyOf_196 : decode cX6_whyOf 196 = .ok (.ireturn, 1) := by decide +kernel
theorem dX6_whyOf_197 : decode cX6_whyOf 197 = .ok (.iinc 2 1, 3) := by decide +kernel
theorem dX6_whyOf_200 : decode cX6_whyOf 200 = .ok (.goto (-198), 3) := by decide +kernel
theorem dX6_whyOf_203 : decode cX6_whyOf 203 = .ok (.bipush (-9), 2) := by decide +kernel
theorem dX6_whyOf_205 : decode cX6_whyOf 205 = .ok (.ireturn, 1) := by decide +kernel
theorem dX6_farOf_0 : decode cX6_farOf 0 = .ok (.ldc 152, 2) := by decide +kernel
theorem dX6_farOf_2 : decode cX6_farOf 2 = .ok (.istore_n 2, 1) := by decide +kernel
theorem dX6_farOf_3 : decode cX6_farOf 3 = .ok (.iconst 0, 1) := by decide +kernel
theorem dX6_farOf_4 : decode cX6_farOf 4 = .ok (.istore_n 3, 1) := by decide +kernel
theorem dX6_farOf_5 : decode cX6_farOf 5 = .ok (.iload_n 3, 1) := by decide +kernel
theorem dX6_farOf_6 : decode cX6_farOf 6 = .ok (.aload_n 0, 1) := by decide +kernel
theorem dX6_farOf_7 : decode cX6_farOf 7 = .ok (.getfield 23, 3) := by decide +kernel
theorem dX6_farOf_10 : decode cX6_farOf 10 = .ok (.iload_n 1, 1) := by decide +kernel
theorem dX6_farOf_11 : decode cX6_farOf 11 = .ok (.iaload, 1) := by decide +kernel
theorem dX6_farOf_12 : decode cX6_farOf 12 = .ok (.if_icmp .ge 65, 3) := by decide +kernel
theorem dX6_farOf_15 : decode cX6_farOf 15 = .ok (.iload_n 1, 1) := by decide +kernel
theorem dX6_farOf_16 : decode cX6_farOf 16 = .ok (.iload_n 3, 1) := by decide +kernel
theorem dX6_farOf_17 : decode cX6_farOf 17 = .ok (.invokestatic 97, 3) := by decide +kernel
theorem dX6_farOf_20 : decode cX6_farOf 20 = .ok (.istore 4, 2) := by decide +kernel
theorem dX6_farOf_22 : decode cX6_farOf 22 = .ok (.aload_n 0, 1) := by decide +kernel
theorem dX6_farOf_23 : decode cX6_farOf 23 = .ok (.getfield 26, 3) := by decide +kernel
theorem dX6_farOf_26 : decode cX6_farOf 26 = .ok (.iload 4, 2) := by decide +kernel
theorem dX6_farOf_28 : decode cX6_farOf 28 = .ok (.iaload, 1) := by decide +kernel
theorem dX6_farOf_29 : decode cX6_farOf 29 = .ok (.iconst 4, 1) := by decide +kernel
theorem dX6_farOf_30 : decode cX6_farOf 30 = .ok (.if_icmp .eq 41, 3) := by decide +kernel
theorem dX6_farOf_33 : decode cX6_farOf 33 = .ok (.aload_n 0, 1) := by decide +kernel
theorem dX6_farOf_34 : decode cX6_farOf 34 = .ok (.getfield 29, 3) := by decide +kernel
theorem dX6_farOf_37 : decode cX6_farOf 37 = .ok (.iload 4, 2) := by decide +kernel
theorem dX6_farOf_39 : decode cX6_farOf 39 = .ok (.iaload, 1) := by decide +kernel
theorem dX6_farOf_40 : decode cX6_farOf 40 = .ok (.ifCond .lt 31, 3) := by decide +kernel
theorem dX6_farOf_43 : decode cX6_farOf 43 = .ok (.iload_n 2, 1) := by decide +kernel
theorem dX6_farOf_44 : decode cX6_farOf 44 = .ok (.aload_n 0, 1) := by decide +kernel
theorem dX6_farOf_45 : decode cX6_farOf 45 = .ok (.aload_n 0, 1) := by decide +kernel
theorem dX6_farOf_46 : decode cX6_farOf 46 = .ok (.getfield 29, 3) := by decide +kernel
theorem dX6_farOf_49 : decode cX6_farOf 49 = .ok (.iload 4, 2) := by decide +kernel
theorem dX6_farOf_51 : decode cX6_farOf 51 = .ok (.iaload, 1) := by decide +kernel
theorem dX6_farOf_52 : decode cX6_farOf 52 = .ok (.aload_n 0, 1) := by decide +kernel
theorem dX6_farOf_53 : decode cX6_farOf 53 = .ok (.getfield 13, 3) := by decide +kernel
theorem dX6_farOf_56 : decode cX6_farOf 56 = .ok (.aload_n 0, 1) := by decide +kernel
theorem dX6_farOf_57 : decode cX6_farOf 57 = .ok (.getfield 26, 3) := by decide +kernel
theorem dX6_farOf_60 : decode cX6_farOf 60 = .ok (.iload 4, 2) := by decide +kernel
theorem dX6_farOf_62 : decode cX6_farOf 62 = .ok (.iaload, 1) := by decide +kernel
theorem dX6_farOf_63 : decode cX6_farOf 63 = .ok (.iaload, 1) := by decide +kernel
theorem dX6_farOf_64 : decode cX6_farOf 64 = .ok (.invokevirtual 161, 3) := by decide +kernel
theorem dX6_farOf_67 : decode cX6_farOf 67 = .ok (.invokestatic 164, 3) := by decide +kernel
theorem dX6_farOf_70 : decode cX6_farOf 70 = .ok (.istore_n 2, 1) := by decide +kernel
theorem dX6_farOf_71 : decode cX6_farOf 71 = .ok (.iinc 3 1, 3) := by decide +kernel
theorem dX6_farOf_74 : decode cX6_farOf 74 = .ok (.goto (-69), 3) := by decide +kernel
theorem dX6_farOf_77 : decode cX6_farOf 77 = .ok (.iload_n 2, 1) := by decide +kernel
theorem dX6_farOf_78 : decode cX6_farOf 78 = .ok (.ireturn, 1) := by decide +kernel
theorem dX6_goes_0 : decode cX6_goes 0 = .ok (.aload_n 0, 1) := by decide +kernel
theorem dX6_goes_1 : decode cX6_goes 1 = .ok (.getfield 29, 3) := by decide +kernel
theorem dX6_goes_4 : decode cX6_goes 4 = .ok (.iload_n 1, 1) := by decide +kernel
theorem dX6_goes_5 : decode cX6_goes 5 = .ok (.iaload, 1) := by decide +kernel
theorem dX6_goes_6 : decode cX6_goes 6 = .ok (.ifCond .lt 31, 3) := by decide +kernel
theorem dX6_goes_9 : decode cX6_goes 9 = .ok (.aload_n 0, 1) := by decide +kernel
theorem dX6_goes_10 : decode cX6_goes 10 = .ok (.getfield 26, 3) := by decide +kernel
theorem dX6_goes_13 : decode cX6_goes 13 = .ok (.iload_n 1, 1) := by decide +kernel
theorem dX6_goes_14 : decode cX6_goes 14 = .ok (.iaload, 1) := by decide +kernel
theorem dX6_goes_15 : decode cX6_goes 15 = .ok (.iconst 4, 1) := by decide +kernel
theorem dX6_goes_16 : decode cX6_goes 16 = .ok (.if_icmp .eq 21, 3) := by decide +kernel
theorem dX6_goes_19 : decode cX6_goes 19 = .ok (.iload_n 2, 1) := by decide +kernel
theorem dX6_goes_20 : decode cX6_goes 20 = .ok (.ifCond .ne 13, 3) := by decide +kernel
theorem dX6_goes_23 : decode cX6_goes 23 = .ok (.aload_n 0, 1) := by decide +kernel
theorem dX6_goes_24 : decode cX6_goes 24 = .ok (.getfield 26, 3) := by decide +kernel
theorem dX6_goes_27 : decode cX6_goes 27 = .ok (.iload_n 1, 1) := by decide +kernel
theorem dX6_goes_28 : decode cX6_goes 28 = .ok (.iaload, 1) := by decide +kernel
theorem dX6_goes_29 : decode cX6_goes 29 = .ok (.iconst 3, 1) := by decide +kernel
theorem dX6_goes_30 : decode cX6_goes 30 = .ok (.if_icmp .eq 7, 3) := by decide +kernel
theorem dX6_goes_33 : decode cX6_goes 33 = .ok (.iconst 1, 1) := by decide +kernel
theorem dX6_goes_34 : decode cX6_goes 34 = .ok (.goto 4, 3) := by decide +kernel
theorem dX6_goes_37 : decode cX6_goes 37 = .ok (.iconst 0, 1) := by decide +kernel
theorem dX6_goes_38 : decode cX6_goes 38 = .ok (.ireturn, 1) := by decide +kernel
theorem dX6_go_0 : decode cX6_go 0 = .ok (.iload_n 1, 1) := by decide +kernel
theorem dX6_go_1 : decode cX6_go 1 = .ok (.aload_n 0, 1) := by decide +kernel
theorem dX6_go_2 : decode cX6_go 2 = .ok (.getfield 86, 3) := by decide +kernel
theorem dX6_go_5 : decode cX6_go 5 = .ok (.invokestatic 89, 3) := by decide +kernel
theorem dX6_go_8 : decode cX6_go 8 = .ok (.ifCond .ne 9, 3) := by decide +kernel
theorem dX6_go_11 : decode cX6_go 11 = .ok (.aload_n 0, 1) := by decide +kernel
theorem dX6_go_12 : decode cX6_go 12 = .ok (.iconst (-1), 1) := by decide +kernel
theorem dX6_go_13 : decode cX6_go 13 = .ok (.invokevirtual 93, 3) := by decide +kernel
theorem dX6_go_16 : decode cX6_go 16 = .ok (.ireturn, 1) := by decide +kernel
theorem dX6_go_17 : decode cX6_go 17 = .ok (.aload_n 0, 1) := by decide +kernel
theorem dX6_go_18 : decode cX6_go 18 = .ok (.iload_n 1, 1) := by decide +kernel
theorem dX6_go_19 : decode cX6_go 19 = .ok (.invokevirtual 166, 3) := by decide +kernel
theorem dX6_go_22 : decode cX6_go 22 = .ok (.bipush (-9), 2) := by decide +kernel
theorem dX6_go_24 : decode cX6_go 24 = .ok (.if_icmp .eq 10, 3) := by decide +kernel
theorem dX6_go_27 : decode cX6_go 27 = .ok (.aload_n 0, 1) := by decide +kernel
theorem dX6_go_28 : decode cX6_go 28 = .ok (.bipush (-2), 2) := by decide +kernel
theorem dX6_go_30 : decode cX6_go 30 = .ok (.invokevirtual 93, 3) := by decide +kernel
theorem dX6_go_33 : decode cX6_go 33 = .ok (.ireturn, 1) := by decide +kernel
theorem dX6_go_34 : decode cX6_go 34 = .ok (.iload_n 2, 1) := by decide +kernel
theorem dX6_go_35 : decode cX6_go 35 = .ok (.iconst 1, 1) := by decide +kernel
theorem dX6_go_36 : decode cX6_go 36 = .ok (.if_icmp .ge 10, 3) := by decide +kernel
theorem dX6_go_39 : decode cX6_go 39 = .ok (.aload_n 0, 1) := by decide +kernel
theorem dX6_go_40 : decode cX6_go 40 = .ok (.bipush (-4), 2) := by decide +kernel
theorem dX6_go_42 : decode cX6_go 42 = .ok (.invokevirtual 93, 3) := by decide +kernel
theorem dX6_go_45 : decode cX6_go 45 = .ok (.ireturn, 1) := by decide +kernel
theorem dX6_go_46 : decode cX6_go 46 = .ok (.iload_n 2, 1) := by decide +kernel
theorem dX6_go_47 : decode cX6_go 47 = .ok (.sipush 10000, 3) := by decide +kernel
theorem dX6_go_50 : decode cX6_go 50 = .ok (.if_icmp .le 10, 3) := by decide +kernel
theorem dX6_go_53 : decode cX6_go 53 = .ok (.aload_n 0, 1) := by decide +kernel
theorem dX6_go_54 : decode cX6_go 54 = .ok (.bipush (-6), 2) := by decide +kernel
theorem dX6_go_56 : decode cX6_go 56 = .ok (.invokevirtual 93, 3) := by decide +kernel
theorem dX6_go_59 : decode cX6_go 59 = .ok (.ireturn, 1) := by decide +kernel
theorem dX6_go_60 : decode cX6_go 60 = .ok (.iconst 0, 1) := by decide +kernel
theorem dX6_go_61 : decode cX6_go 61 = .ok (.istore 4, 2) := by decide +kernel
theorem dX6_go_63 : decode cX6_go 63 = .ok (.iload 4, 2) := by decide +kernel
theorem dX6_go_65 : decode cX6_go 65 = .ok (.aload_n 0, 1) := by decide +kernel
theorem dX6_go_66 : decode cX6_go 66 = .ok (.getfield 23, 3) := by decide +kernel
theorem dX6_go_69 : decode cX6_go 69 = .ok (.iload_n 1, 1) := by decide +kernel
theorem dX6_go_70 : decode cX6_go 70 = .ok (.iaload, 1) := by decide +kernel
theorem dX6_go_71 : decode cX6_go 71 = .ok (.if_icmp .ge 53, 3) := by decide +kernel
theorem dX6_go_74 : decode cX6_go 74 = .ok (.aload_n 0, 1) := by decide +kernel
theorem dX6_go_75 : decode cX6_go 75 = .ok (.iload_n 1, 1) := by decide +kernel
theorem dX6_go_76 : decode cX6_go 76 = .ok (.iload 4, 2) := by decide +kernel
theorem dX6_go_78 : decode cX6_go 78 = .ok (.invokestatic 97, 3) := by decide +kernel
theorem dX6_go_81 : decode cX6_go 81 = .ok (.iload_n 3, 1) := by decide +kernel
theorem dX6_go_82 : decode cX6_go 82 = .ok (.invokevirtual 169, 3) := by decide +kernel
theorem dX6_go_85 : decode cX6_go 85 = .ok (.ifCond .eq 33, 3) := by decide +kernel
theorem dX6_go_88 : decode cX6_go 88 = .ok (.aload_n 0, 1) := by decide +kernel
theorem dX6_go_89 : decode cX6_go 89 = .ok (.getfield 47, 3) := by decide +kernel
theorem dX6_go_92 : decode cX6_go 92 = .ok (.aload_n 0, 1) := by decide +kernel
theorem dX6_go_93 : decode cX6_go 93 = .ok (.getfield 29, 3) := by decide +kernel
theorem dX6_go_96 : decode cX6_go 96 = .ok (.iload_n 1, 1) := by decide +kernel
theorem dX6_go_97 : decode cX6_go 97 = .ok (.iload 4, 2) := by decide +kernel
theorem dX6_go_99 : decode cX6_go 99 = .ok (.invokestatic 97, 3) := by decide +kernel
theorem dX6_go_102 : decode cX6_go 102 = .ok (.iaload, 1) := by decide +kernel
theorem dX6_go_103 : decode cX6_go 103 = .ok (.iaload, 1) := by decide +kernel
theorem dX6_go_104 : decode cX6_go 104 = .ok (.iload_n 2, 1) := by decide +kernel
theorem dX6_go_105 : decode cX6_go 105 = .ok (.iadd, 1) := by decide +kernel
theorem dX6_go_106 : decode cX6_go 106 = .ok (.ldc 152, 2) := by decide +kernel
theorem dX6_go_108 : decode cX6_go 108 = .ok (.if_icmp .le 10, 3) := by decide +kernel
theorem dX6_go_111 : decode cX6_go 111 = .ok (.aload_n 0, 1) := by decide +kernel
theorem dX6_go_112 : decode cX6_go 112 = .ok (.bipush (-6), 2) := by decide +kernel
theorem dX6_go_114 : decode cX6_go 114 = .ok (.invokevirtual 93, 3) := by decide +kernel
theorem dX6_go_117 : decode cX6_go 117 = .ok (.ireturn, 1) := by decide +kernel
theorem dX6_go_118 : decode cX6_go 118 = .ok (.iinc 4 1, 3) := by decide +kernel
theorem dX6_go_121 : decode cX6_go 121 = .ok (.goto (-58), 3) := by decide +kernel
theorem dX6_go_124 : decode cX6_go 124 = .ok (.iconst 0, 1) := by decide +kernel
theorem dX6_go_125 : decode cX6_go 125 = .ok (.istore 4, 2) := by decide +kernel
theorem dX6_go_127 : decode cX6_go 127 = .ok (.iload 4, 2) := by decide +kernel
theorem dX6_go_129 : decode cX6_go 129 = .ok (.aload_n 0, 1) := by decide +kernel
theorem dX6_go_130 : decode cX6_go 130 = .ok (.getfield 23, 3) := by decide +kernel
theorem dX6_go_133 : decode cX6_go 133 = .ok (.iload_n 1, 1) := by decide +kernel
theorem dX6_go_134 : decode cX6_go 134 = .ok (.iaload, 1) := by decide +kernel
theorem dX6_go_135 : decode cX6_go 135 = .ok (.if_icmp .ge 43, 3) := by decide +kernel
theorem dX6_go_138 : decode cX6_go 138 = .ok (.aload_n 0, 1) := by decide +kernel
theorem dX6_go_139 : decode cX6_go 139 = .ok (.iload_n 1, 1) := by decide +kernel
theorem dX6_go_140 : decode cX6_go 140 = .ok (.iload 4, 2) := by decide +kernel
theorem dX6_go_142 : decode cX6_go 142 = .ok (.invokestatic 97, 3) := by decide +kernel
theorem dX6_go_145 : decode cX6_go 145 = .ok (.iload_n 3, 1) := by decide +kernel
theorem dX6_go_146 : decode cX6_go 146 = .ok (.invokevirtual 169, 3) := by decide +kernel
theorem dX6_go_149 : decode cX6_go 149 = .ok (.ifCond .eq 23, 3) := by decide +kernel
theorem dX6_go_152 : decode cX6_go 152 = .ok (.aload_n 0, 1) := by decide +kernel
theorem dX6_go_153 : decode cX6_go 153 = .ok (.getfield 47, 3) := by decide +kernel
theorem dX6_go_156 : decode cX6_go 156 = .ok (.aload_n 0, 1) := by decide +kernel
theorem dX6_go_157 : decode cX6_go 157 = .ok (.getfield 29, 3) := by decide +kernel
theorem dX6_go_160 : decode cX6_go 160 = .ok (.iload_n 1, 1) := by decide +kernel
theorem dX6_go_161 : decode cX6_go 161 = .ok (.iload 4, 2) := by decide +kernel
theorem dX6_go_163 : decode cX6_go 163 = .ok (.invokestatic 97, 3) := by decide +kernel
theorem dX6_go_166 : decode cX6_go 166 = .ok (.iaload, 1) := by decide +kernel
theorem dX6_go_167 : decode cX6_go 167 = .ok (.dup2, 1) := by decide +kernel
theorem dX6_go_168 : decode cX6_go 168 = .ok (.iaload, 1) := by decide +kernel
theorem dX6_go_169 : decode cX6_go 169 = .ok (.iload_n 2, 1) := by decide +kernel
theorem dX6_go_170 : decode cX6_go 170 = .ok (.iadd, 1) := by decide +kernel
theorem dX6_go_171 : decode cX6_go 171 = .ok (.iastore, 1) := by decide +kernel
theorem dX6_go_172 : decode cX6_go 172 = .ok (.iinc 4 1, 3) := by decide +kernel
theorem dX6_go_175 : decode cX6_go 175 = .ok (.goto (-48), 3) := by decide +kernel
theorem dX6_go_178 : decode cX6_go 178 = .ok (.aload_n 0, 1) := by decide +kernel
theorem dX6_go_179 : decode cX6_go 179 = .ok (.iload_n 1, 1) := by decide +kernel
theorem dX6_go_180 : decode cX6_go 180 = .ok (.invokevirtual 173, 3) := by decide +kernel
theorem dX6_go_183 : decode cX6_go 183 = .ok (.ireturn, 1) := by decide +kernel
theorem dX6_why_0 : decode cX6_why 0 = .ok (.iload_n 1, 1) := by decide +kernel
theorem dX6_why_1 : decode cX6_why 1 = .ok (.aload_n 0, 1) := by decide +kernel
theorem dX6_why_2 : decode cX6_why 2 = .ok (.getfield 86, 3) := by decide +kernel
theorem dX6_why_5 : decode cX6_why 5 = .ok (.invokestatic 89, 3) := by decide +kernel
theorem dX6_why_8 : decode cX6_why 8 = .ok (.ifCond .eq 11, 3) := by decide +kernel
theorem dX6_why_11 : decode cX6_why 11 = .ok (.aload_n 0, 1) := by decide +kernel
theorem dX6_why_12 : decode cX6_why 12 = .ok (.iload_n 1, 1) := by decide +kernel
theorem dX6_why_13 : decode cX6_why 13 = .ok (.invokevirtual 166, 3) := by decide +kernel
theorem dX6_why_16 : decode cX6_why 16 = .ok (.goto 8, 3) := by decide +kernel
theorem dX6_why_19 : decode cX6_why 19 = .ok (.aload_n 0, 1) := by decide +kernel
theorem dX6_why_20 : decode cX6_why 20 = .ok (.iconst (-1), 1) := by decide +kernel
theorem dX6_why_21 : decode cX6_why 21 = .ok (.invokevirtual 93, 3) := by decide +kernel
theorem dX6_why_24 : decode cX6_why 24 = .ok (.ireturn, 1) := by decide +kernel
theorem dX6_far_0 : decode cX6_far 0 = .ok (.iload_n 1, 1) := by decide +kernel
theorem dX6_far_1 : decode cX6_far 1 = .ok (.aload_n 0, 1) := by decide +kernel
theorem dX6_far_2 : decode cX6_far 2 = .ok (.getfield 86, 3) := by decide +kernel
theorem dX6_far_5 : decode cX6_far 5 = .ok (.invokestatic 89, 3) := by decide +kernel
theorem dX6_far_8 : decode cX6_far 8 = .ok (.ifCond .eq 11, 3) := by decide +kernel
theorem dX6_far_11 : decode cX6_far 11 = .ok (.aload_n 0, 1) := by decide +kernel
theorem dX6_far_12 : decode cX6_far 12 = .ok (.iload_n 1, 1) := by decide +kernel
theorem dX6_far_13 : decode cX6_far 13 = .ok (.invokevirtual 173, 3) := by decide +kernel
theorem dX6_far_16 : decode cX6_far 16 = .ok (.goto 8, 3) := by decide +kernel
theorem dX6_far_19 : decode cX6_far 19 = .ok (.aload_n 0, 1) := by decide +kernel
theorem dX6_far_20 : decode cX6_far 20 = .ok (.iconst (-1), 1) := by decide +kernel
theorem dX6_far_21 : decode cX6_far 21 = .ok (.invokevirtual 93, 3) := by decide +kernel
theorem dX6_far_24 : decode cX6_far 24 = .ok (.ireturn, 1) := by decide +kernel
theorem dX6_tries_0 : decode cX6_tries 0 = .ok (.aload_n 0, 1) := by decide +kernel
theorem dX6_tries_1 : decode cX6_tries 1 = .ok (.iconst 0, 1) := by decide +kernel
theorem dX6_tries_2 : decode cX6_tries 2 = .ok (.putfield 176, 3) := by decide +kernel
theorem dX6_tries_5 : decode cX6_tries 5 = .ok (.iconst 0, 1) := by decide +kernel
theorem dX6_tries_6 : decode cX6_tries 6 = .ok (.istore_n 2, 1) := by decide +kernel
theorem dX6_tries_7 : decode cX6_tries 7 = .ok (.iload_n 2, 1) := by decide +kernel
theorem dX6_tries_8 : decode cX6_tries 8 = .ok (.aload_n 0, 1) := by decide +kernel
theorem dX6_tries_9 : decode cX6_tries 9 = .ok (.getfield 107, 3) := by decide +kernel
theorem dX6_tries_12 : decode cX6_tries 12 = .ok (.if_icmp .ge 124, 3) := by decide +kernel
