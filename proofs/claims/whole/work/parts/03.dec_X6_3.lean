theorem dX6_few_107 : decode cX6_few 107 = .ok (.iaload, 1) := by decide +kernel
theorem dX6_few_108 : decode cX6_few 108 = .ok (.ifCond .eq 8, 3) := by decide +kernel
theorem dX6_few_111 : decode cX6_few 111 = .ok (.iload 7, 2) := by decide +kernel
theorem dX6_few_113 : decode cX6_few 113 = .ok (.ifCond .ne 8, 3) := by decide +kernel
theorem dX6_few_116 : decode cX6_few 116 = .ok (.ldc 152, 2) := by decide +kernel
theorem dX6_few_118 : decode cX6_few 118 = .ok (.goto 24, 3) := by decide +kernel
theorem dX6_few_121 : decode cX6_few 121 = .ok (.ldc 152, 2) := by decide +kernel
theorem dX6_few_123 : decode cX6_few 123 = .ok (.sipush 180, 3) := by decide +kernel
theorem dX6_few_126 : decode cX6_few 126 = .ok (.iload 7, 2) := by decide +kernel
theorem dX6_few_128 : decode cX6_few 128 = .ok (.isub, 1) := by decide +kernel
theorem dX6_few_129 : decode cX6_few 129 = .ok (.ldc 192, 2) := by decide +kernel
theorem dX6_few_131 : decode cX6_few 131 = .ok (.imul, 1) := by decide +kernel
theorem dX6_few_132 : decode cX6_few 132 = .ok (.aload_n 0, 1) := by decide +kernel
theorem dX6_few_133 : decode cX6_few 133 = .ok (.getfield 16, 3) := by decide +kernel
theorem dX6_few_136 : decode cX6_few 136 = .ok (.iload_n 2, 1) := by decide +kernel
theorem dX6_few_137 : decode cX6_few 137 = .ok (.iaload, 1) := by decide +kernel
theorem dX6_few_138 : decode cX6_few 138 = .ok (.idiv, 1) := by decide +kernel
theorem dX6_few_139 : decode cX6_few 139 = .ok (.invokestatic 164, 3) := by decide +kernel
theorem dX6_few_142 : decode cX6_few 142 = .ok (.istore 8, 2) := by decide +kernel
theorem dX6_few_144 : decode cX6_few 144 = .ok (.aload_n 0, 1) := by decide +kernel
theorem dX6_few_145 : decode cX6_few 145 = .ok (.getfield 29, 3) := by decide +kernel
theorem dX6_few_148 : decode cX6_few 148 = .ok (.iload 6, 2) := by decide +kernel
theorem dX6_few_150 : decode cX6_few 150 = .ok (.iaload, 1) := by decide +kernel
theorem dX6_few_151 : decode cX6_few 151 = .ok (.ifCond .ge 7, 3) := by decide +kernel
theorem dX6_few_154 : decode cX6_few 154 = .ok (.iload_n 3, 1) := by decide +kernel
theorem dX6_few_155 : decode cX6_few 155 = .ok (.goto 22, 3) := by decide +kernel
theorem dX6_few_158 : decode cX6_few 158 = .ok (.iconst 0, 1) := by decide +kernel
theorem dX6_few_159 : decode cX6_few 159 = .ok (.iload_n 3, 1) := by decide +kernel
theorem dX6_few_160 : decode cX6_few 160 = .ok (.aload_n 0, 1) := by decide +kernel
theorem dX6_few_161 : decode cX6_few 161 = .ok (.aload_n 0, 1) := by decide +kernel
theorem dX6_few_162 : decode cX6_few 162 = .ok (.getfield 29, 3) := by decide +kernel
theorem dX6_few_165 : decode cX6_few 165 = .ok (.iload 6, 2) := by decide +kernel
theorem dX6_few_167 : decode cX6_few 167 = .ok (.iaload, 1) := by decide +kernel
theorem dX6_few_168 : decode cX6_few 168 = .ok (.iload 7, 2) := by decide +kernel
theorem dX6_few_170 : decode cX6_few 170 = .ok (.invokevirtual 161, 3) := by decide +kernel
theorem dX6_few_173 : decode cX6_few 173 = .ok (.isub, 1) := by decide +kernel
theorem dX6_few_174 : decode cX6_few 174 = .ok (.invokestatic 193, 3) := by decide +kernel
theorem dX6_few_177 : decode cX6_few 177 = .ok (.istore 9, 2) := by decide +kernel
theorem dX6_few_179 : decode cX6_few 179 = .ok (.iload 9, 2) := by decide +kernel
theorem dX6_few_181 : decode cX6_few 181 = .ok (.iload 8, 2) := by decide +kernel
theorem dX6_few_183 : decode cX6_few 183 = .ok (.iadd, 1) := by decide +kernel
theorem dX6_few_184 : decode cX6_few 184 = .ok (.iconst 1, 1) := by decide +kernel
theorem dX6_few_185 : decode cX6_few 185 = .ok (.isub, 1) := by decide +kernel
theorem dX6_few_186 : decode cX6_few 186 = .ok (.iload 8, 2) := by decide +kernel
theorem dX6_few_188 : decode cX6_few 188 = .ok (.idiv, 1) := by decide +kernel
theorem dX6_few_189 : decode cX6_few 189 = .ok (.istore 10, 2) := by decide +kernel
theorem dX6_few_191 : decode cX6_few 191 = .ok (.iload 4, 2) := by decide +kernel
theorem dX6_few_193 : decode cX6_few 193 = .ok (.aload_n 0, 1) := by decide +kernel
theorem dX6_few_194 : decode cX6_few 194 = .ok (.getfield 29, 3) := by decide +kernel
theorem dX6_few_197 : decode cX6_few 197 = .ok (.iload 6, 2) := by decide +kernel
theorem dX6_few_199 : decode cX6_few 199 = .ok (.iaload, 1) := by decide +kernel
theorem dX6_few_200 : decode cX6_few 200 = .ok (.ifCond .ge 12, 3) := by decide +kernel
theorem dX6_few_203 : decode cX6_few 203 = .ok (.iconst 1, 1) := by decide +kernel
theorem dX6_few_204 : decode cX6_few 204 = .ok (.iload 10, 2) := by decide +kernel
theorem dX6_few_206 : decode cX6_few 206 = .ok (.invokestatic 193, 3) := by decide +kernel
theorem dX6_few_209 : decode cX6_few 209 = .ok (.goto 5, 3) := by decide +kernel
theorem dX6_few_212 : decode cX6_few 212 = .ok (.iload 10, 2) := by decide +kernel
theorem dX6_few_214 : decode cX6_few 214 = .ok (.iadd, 1) := by decide +kernel
theorem dX6_few_215 : decode cX6_few 215 = .ok (.istore 4, 2) := by decide +kernel
theorem dX6_few_217 : decode cX6_few 217 = .ok (.iinc 5 1, 3) := by decide +kernel
theorem dX6_few_220 : decode cX6_few 220 = .ok (.goto (-165), 3) := by decide +kernel
theorem dX6_few_223 : decode cX6_few 223 = .ok (.iload 4, 2) := by decide +kernel
theorem dX6_few_225 : decode cX6_few 225 = .ok (.ireturn, 1) := by decide +kernel
theorem dX6_asOf_0 : decode cX6_asOf 0 = .ok (.iload_n 1, 1) := by decide +kernel
theorem dX6_asOf_1 : decode cX6_asOf 1 = .ok (.aload_n 0, 1) := by decide +kernel
theorem dX6_asOf_2 : decode cX6_asOf 2 = .ok (.getfield 107, 3) := by decide +kernel
theorem dX6_asOf_5 : decode cX6_asOf 5 = .ok (.invokestatic 89, 3) := by decide +kernel
theorem dX6_asOf_8 : decode cX6_asOf 8 = .ok (.ifCond .ne 7, 3) := by decide +kernel
theorem dX6_asOf_11 : decode cX6_asOf 11 = .ok (.iconst (-1), 1) := by decide +kernel
theorem dX6_asOf_12 : decode cX6_asOf 12 = .ok (.goto 26, 3) := by decide +kernel
theorem dX6_asOf_15 : decode cX6_asOf 15 = .ok (.iload_n 2, 1) := by decide +kernel
theorem dX6_asOf_16 : decode cX6_asOf 16 = .ok (.ifCond .ge 8, 3) := by decide +kernel
theorem dX6_asOf_19 : decode cX6_asOf 19 = .ok (.bipush (-4), 2) := by decide +kernel
theorem dX6_asOf_21 : decode cX6_asOf 21 = .ok (.goto 17, 3) := by decide +kernel
theorem dX6_asOf_24 : decode cX6_asOf 24 = .ok (.iload_n 2, 1) := by decide +kernel
theorem dX6_asOf_25 : decode cX6_asOf 25 = .ok (.aload_n 0, 1) := by decide +kernel
theorem dX6_asOf_26 : decode cX6_asOf 26 = .ok (.getfield 104, 3) := by decide +kernel
theorem dX6_asOf_29 : decode cX6_asOf 29 = .ok (.if_icmp .le 8, 3) := by decide +kernel
theorem dX6_asOf_32 : decode cX6_asOf 32 = .ok (.bipush (-6), 2) := by decide +kernel
theorem dX6_asOf_34 : decode cX6_asOf 34 = .ok (.goto 4, 3) := by decide +kernel
theorem dX6_asOf_37 : decode cX6_asOf 37 = .ok (.iconst 0, 1) := by decide +kernel
theorem dX6_asOf_38 : decode cX6_asOf 38 = .ok (.istore_n 3, 1) := by decide +kernel
theorem dX6_asOf_39 : decode cX6_asOf 39 = .ok (.iload_n 3, 1) := by decide +kernel
theorem dX6_asOf_40 : decode cX6_asOf 40 = .ok (.ifCond .eq 12, 3) := by decide +kernel
theorem dX6_asOf_43 : decode cX6_asOf 43 = .ok (.aload_n 0, 1) := by decide +kernel
theorem dX6_asOf_44 : decode cX6_asOf 44 = .ok (.iload_n 3, 1) := by decide +kernel
theorem dX6_asOf_45 : decode cX6_asOf 45 = .ok (.invokevirtual 93, 3) := by decide +kernel
theorem dX6_asOf_48 : decode cX6_asOf 48 = .ok (.bipush 10, 2) := by decide +kernel
theorem dX6_asOf_50 : decode cX6_asOf 50 = .ok (.isub, 1) := by decide +kernel
theorem dX6_asOf_51 : decode cX6_asOf 51 = .ok (.ireturn, 1) := by decide +kernel
theorem dX6_asOf_52 : decode cX6_asOf 52 = .ok (.bipush (-9), 2) := by decide +kernel
theorem dX6_asOf_54 : decode cX6_asOf 54 = .ok (.istore 4, 2) := by decide +kernel
theorem dX6_asOf_56 : decode cX6_asOf 56 = .ok (.iconst 0, 1) := by decide +kernel
theorem dX6_asOf_57 : decode cX6_asOf 57 = .ok (.istore 5, 2) := by decide +kernel
theorem dX6_asOf_59 : decode cX6_asOf 59 = .ok (.iload 5, 2) := by decide +kernel
theorem dX6_asOf_61 : decode cX6_asOf 61 = .ok (.aload_n 0, 1) := by decide +kernel
theorem dX6_asOf_62 : decode cX6_asOf 62 = .ok (.getfield 101, 3) := by decide +kernel
theorem dX6_asOf_65 : decode cX6_asOf 65 = .ok (.if_icmp .ge 40, 3) := by decide +kernel
theorem dX6_asOf_68 : decode cX6_asOf 68 = .ok (.aload_n 0, 1) := by decide +kernel
theorem dX6_asOf_69 : decode cX6_asOf 69 = .ok (.getfield 65, 3) := by decide +kernel
theorem dX6_asOf_72 : decode cX6_asOf 72 = .ok (.iload 5, 2) := by decide +kernel
theorem dX6_asOf_74 : decode cX6_asOf 74 = .ok (.iaload, 1) := by decide +kernel
theorem dX6_asOf_75 : decode cX6_asOf 75 = .ok (.iload_n 1, 1) := by decide +kernel
theorem dX6_asOf_76 : decode cX6_asOf 76 = .ok (.if_icmp .ne 23, 3) := by decide +kernel
theorem dX6_asOf_79 : decode cX6_asOf 79 = .ok (.aload_n 0, 1) := by decide +kernel
theorem dX6_asOf_80 : decode cX6_asOf 80 = .ok (.getfield 68, 3) := by decide +kernel
theorem dX6_asOf_83 : decode cX6_asOf 83 = .ok (.iload 5, 2) := by decide +kernel
theorem dX6_asOf_85 : decode cX6_asOf 85 = .ok (.iaload, 1) := by decide +kernel
theorem dX6_asOf_86 : decode cX6_asOf 86 = .ok (.iload_n 2, 1) := by decide +kernel
theorem dX6_asOf_87 : decode cX6_asOf 87 = .ok (.if_icmp .gt 12, 3) := by decide +kernel
theorem dX6_asOf_90 : decode cX6_asOf 90 = .ok (.aload_n 0, 1) := by decide +kernel
theorem dX6_asOf_91 : decode cX6_asOf 91 = .ok (.getfield 71, 3) := by decide +kernel
theorem dX6_asOf_94 : decode cX6_asOf 94 = .ok (.iload 5, 2) := by decide +kernel
theorem dX6_asOf_96 : decode cX6_asOf 96 = .ok (.iaload, 1) := by decide +kernel
theorem dX6_asOf_97 : decode cX6_asOf 97 = .ok (.istore 4, 2) := by decide +kernel
theorem dX6_asOf_99 : decode cX6_asOf 99 = .ok (.iinc 5 1, 3) := by decide +kernel
theorem dX6_asOf_102 : decode cX6_asOf 102 = .ok (.goto (-43), 3) := by decide +kernel
theorem dX6_asOf_105 : decode cX6_asOf 105 = .ok (.iload 4, 2) := by decide +kernel
theorem dX6_asOf_107 : decode cX6_asOf 107 = .ok (.ireturn, 1) := by decide +kernel
theorem dX6_tyreOf_0 : decode cX6_tyreOf 0 = .ok (.iload_n 1, 1) := by decide +kernel
theorem dX6_tyreOf_1 : decode cX6_tyreOf 1 = .ok (.aload_n 0, 1) := by decide +kernel
theorem dX6_tyreOf_2 : decode cX6_tyreOf 2 = .ok (.getfield 107, 3) := by decide +kernel
theorem dX6_tyreOf_5 : decode cX6_tyreOf 5 = .ok (.invokestatic 89, 3) := by decide +kernel
theorem dX6_tyreOf_8 : decode cX6_tyreOf 8 = .ok (.ifCond .ne 6, 3) := by decide +kernel
theorem dX6_tyreOf_11 : decode cX6_tyreOf 11 = .ok (.bipush (-20), 2) := by decide +kernel
theorem dX6_tyreOf_13 : decode cX6_tyreOf 13 = .ok (.ireturn, 1) := by decide +kernel
theorem dX6_tyreOf_14 : decode cX6_tyreOf 14 = .ok (.iload_n 2, 1) := by decide +kernel
theorem dX6_tyreOf_15 : decode cX6_tyreOf 15 = .ok (.tableswitch 128 0 8 #[49, 56, 63, 70, 77, 84, 91, 98, 105], 49) := by decide +kernel
theorem dX6_tyreOf_64 : decode cX6_tyreOf 64 = .ok (.aload_n 0, 1) := by decide +kernel
theorem dX6_tyreOf_65 : decode cX6_tyreOf 65 = .ok (.getfield 35, 3) := by decide +kernel
theorem dX6_tyreOf_68 : decode cX6_tyreOf 68 = .ok (.iload_n 1, 1) := by decide +kernel
theorem dX6_tyreOf_69 : decode cX6_tyreOf 69 = .ok (.iaload, 1) := by decide +kernel
theorem dX6_tyreOf_70 : decode cX6_tyreOf 70 = .ok (.ireturn, 1) := by decide +kernel
theorem dX6_tyreOf_71 : decode cX6_tyreOf 71 = .ok (.aload_n 0, 1) := by decide +kernel
theorem dX6_tyreOf_72 : decode cX6_tyreOf 72 = .ok (.getfield 38, 3) := by decide +kernel
theorem dX6_tyreOf_75 : decode cX6_tyreOf 75 = .ok (.iload_n 1, 1) := by decide +kernel
theorem dX6_tyreOf_76 : decode cX6_tyreOf 76 = .ok (.iaload, 1) := by decide +kernel
theorem dX6_tyreOf_77 : decode cX6_tyreOf 77 = .ok (.ireturn, 1) := by decide +kernel
theorem dX6_tyreOf_78 : decode cX6_tyreOf 78 = .ok (.aload_n 0, 1) := by decide +kernel
theorem dX6_tyreOf_79 : decode cX6_tyreOf 79 = .ok (.getfield 41, 3) := by decide +kernel
theorem dX6_tyreOf_82 : decode cX6_tyreOf 82 = .ok (.iload_n 1, 1) := by decide +kernel
theorem dX6_tyreOf_83 : decode cX6_tyreOf 83 = .ok (.iaload, 1) := by decide +kernel
theorem dX6_tyreOf_84 : decode cX6_tyreOf 84 = .ok (.ireturn, 1) := by decide +kernel
theorem dX6_tyreOf_85 : decode cX6_tyreOf 85 = .ok (.aload_n 0, 1) := by decide +kernel
theorem dX6_tyreOf_86 : decode cX6_tyreOf 86 = .ok (.getfield 44, 3) := by decide +kernel
theorem dX6_tyreOf_89 : decode cX6_tyreOf 89 = .ok (.iload_n 1, 1) := by decide +kernel
theorem dX6_tyreOf_90 : decode cX6_tyreOf 90 = .ok (.iaload, 1) := by decide +kernel
theorem dX6_tyreOf_91 : decode cX6_tyreOf 91 = .ok (.ireturn, 1) := by decide +kernel
theorem dX6_tyreOf_92 : decode cX6_tyreOf 92 = .ok (.aload_n 0, 1) := by decide +kernel
theorem dX6_tyreOf_93 : decode cX6_tyreOf 93 = .ok (.getfield 47, 3) := by decide +kernel
theorem dX6_tyreOf_96 : decode cX6_tyreOf 96 = .ok (.iload_n 1, 1) := by decide +kernel
theorem dX6_tyreOf_97 : decode cX6_tyreOf 97 = .ok (.iaload, 1) := by decide +kernel
theorem dX6_tyreOf_98 : decode cX6_tyreOf 98 = .ok (.ireturn, 1) := by decide +kernel
theorem dX6_tyreOf_99 : decode cX6_tyreOf 99 = .ok (.aload_n 0, 1) := by decide +kernel
theorem dX6_tyreOf_100 : decode cX6_tyreOf 100 = .ok (.getfield 56, 3) := by decide +kernel
theorem dX6_tyreOf_103 : decode cX6_tyreOf 103 = .ok (.iload_n 1, 1) := by decide +kernel
theorem dX6_tyreOf_104 : decode cX6_tyreOf 104 = .ok (.iaload, 1) := by decide +kernel
theorem dX6_tyreOf_105 : decode cX6_tyreOf 105 = .ok (.ireturn, 1) := by decide +kernel
theorem dX6_tyreOf_106 : decode cX6_tyreOf 106 = .ok (.aload_n 0, 1) := by decide +kernel
theorem dX6_tyreOf_107 : decode cX6_tyreOf 107 = .ok (.getfield 50, 3) := by decide +kernel
theorem dX6_tyreOf_110 : decode cX6_tyreOf 110 = .ok (.iload_n 1, 1) := by decide +kernel
theorem dX6_tyreOf_111 : decode cX6_tyreOf 111 = .ok (.iaload, 1) := by decide +kernel
theorem dX6_tyreOf_112 : decode cX6_tyreOf 112 = .ok (.ireturn, 1) := by decide +kernel
theorem dX6_tyreOf_113 : decode cX6_tyreOf 113 = .ok (.aload_n 0, 1) := by decide +kernel
theorem dX6_tyreOf_114 : decode cX6_tyreOf 114 = .ok (.iload_n 1, 1) := by decide +kernel
theorem dX6_tyreOf_115 : decode cX6_tyreOf 115 = .ok (.iconst 0, 1) := by decide +kernel
theorem dX6_tyreOf_116 : decode cX6_tyreOf 116 = .ok (.invokevirtual 149, 3) := by decide +kernel
theorem dX6_tyreOf_119 : decode cX6_tyreOf 119 = .ok (.ireturn, 1) := by decide +kernel
theorem dX6_tyreOf_120 : decode cX6_tyreOf 120 = .ok (.aload_n 0, 1) := by decide +kernel
theorem dX6_tyreOf_121 : decode cX6_tyreOf 121 = .ok (.getfield 50, 3) := by decide +kernel
theorem dX6_tyreOf_124 : decode cX6_tyreOf 124 = .ok (.iload_n 1, 1) := by decide +kernel
theorem dX6_tyreOf_125 : decode cX6_tyreOf 125 = .ok (.iaload, 1) := by decide +kernel
theorem dX6_tyreOf_126 : decode cX6_tyreOf 126 = .ok (.bipush (-2), 2) := by decide +kernel
theorem dX6_tyreOf_128 : decode cX6_tyreOf 128 = .ok (.if_icmp .ne 12, 3) := by decide +kernel
theorem dX6_tyreOf_131 : decode cX6_tyreOf 131 = .ok (.aload_n 0, 1) := by decide +kernel
theorem dX6_tyreOf_132 : decode cX6_tyreOf 132 = .ok (.getfield 53, 3) := by decide +kernel
theorem dX6_tyreOf_135 : decode cX6_tyreOf 135 = .ok (.iload_n 1, 1) := by decide +kernel
theorem dX6_tyreOf_136 : decode cX6_tyreOf 136 = .ok (.iaload, 1) := by decide +kernel
theorem dX6_tyreOf_137 : decode cX6_tyreOf 137 = .ok (.goto 5, 3) := by decide +kernel
theorem dX6_tyreOf_140 : decode cX6_tyreOf 140 = .ok (.bipush (-9), 2) := by decide +kernel
theorem dX6_tyreOf_142 : decode cX6_tyreOf 142 = .ok (.ireturn, 1) := by decide +kernel
theorem dX6_tyreOf_143 : decode cX6_tyreOf 143 = .ok (.bipush (-20), 2) := by decide +kernel
theorem dX6_tyreOf_145 : decode cX6_tyreOf 145 = .ok (.ireturn, 1) := by decide +kernel
theorem dX6_reading_0 : decode cX6_reading 0 = .ok (.iload_n 1, 1) := by decide +kernel
theorem dX6_reading_1 : decode cX6_reading 1 = .ok (.aload_n 0, 1) := by decide +kernel
theorem dX6_reading_2 : decode cX6_reading 2 = .ok (.getfield 107, 3) := by decide +kernel
theorem dX6_reading_5 : decode cX6_reading 5 = .ok (.invokestatic 89, 3) := by decide +kernel
theorem dX6_reading_8 : decode cX6_reading 8 = .ok (.ifCond .eq 24, 3) := by decide +kernel
theorem dX6_reading_11 : decode cX6_reading 11 = .ok (.iload_n 2, 1) := by decide +kernel
theorem dX6_reading_12 : decode cX6_reading 12 = .ok (.aload_n 0, 1) := by decide +kernel
theorem dX6_reading_13 : decode cX6_reading 13 = .ok (.getfield 56, 3) := by decide +kernel
theorem dX6_reading_16 : decode cX6_reading 16 = .ok (.iload_n 1, 1) := by decide +kernel
theorem dX6_reading_17 : decode cX6_reading 17 = .ok (.iaload, 1) := by decide +kernel
theorem dX6_reading_18 : decode cX6_reading 18 = .ok (.invokestatic 89, 3) := by decide +kernel
theorem dX6_reading_21 : decode cX6_reading 21 = .ok (.ifCond .eq 11, 3) := by decide +kernel
theorem dX6_reading_24 : decode cX6_reading 24 = .ok (.iload_n 3, 1) := by decide +kernel
theorem dX6_reading_25 : decode cX6_reading 25 = .ok (.iconst 2, 1) := by decide +kernel
theorem dX6_reading_26 : decode cX6_reading 26 = .ok (.invokestatic 89, 3) := by decide +kernel
theorem dX6_reading_29 : decode cX6_reading 29 = .ok (.ifCond .ne 6, 3) := by decide +kernel
theorem dX6_reading_32 : decode cX6_reading 32 = .ok (.bipush (-9), 2) := by decide +kernel
theorem dX6_reading_34 : decode cX6_reading 34 = .ok (.ireturn, 1) := by decide +kernel
theorem dX6_reading_35 : decode cX6_reading 35 = .ok (.iload_n 3, 1) := by decide +kernel
theorem dX6_reading_36 : decode cX6_reading 36 = .ok (.ifCond .ne 17, 3) := by decide +kernel
theorem dX6_reading_39 : decode cX6_reading 39 = .ok (.aload_n 0, 1) := by decide +kernel
theorem dX6_reading_40 : decode cX6_reading 40 = .ok (.getfield 59, 3) := by decide +kernel
theorem dX6_reading_43 : decode cX6_reading 43 = .ok (.bipush 13, 2) := by decide +kernel
theorem dX6_reading_45 : decode cX6_reading 45 = .ok (.iload_n 1, 1) := by decide +kernel
theorem dX6_reading_46 : decode cX6_reading 46 = .ok (.imul, 1) := by decide +kernel
theorem dX6_reading_47 : decode cX6_reading 47 = .ok (.iload_n 2, 1) := by decide +kernel
theorem dX6_reading_48 : decode cX6_reading 48 = .ok (.iadd, 1) := by decide +kernel
theorem dX6_reading_49 : decode cX6_reading 49 = .ok (.iaload, 1) := by decide +kernel
theorem dX6_reading_50 : decode cX6_reading 50 = .ok (.goto 14, 3) := by decide +kernel
theorem dX6_reading_53 : decode cX6_reading 53 = .ok (.aload_n 0, 1) := by decide +kernel
theorem dX6_reading_54 : decode cX6_reading 54 = .ok (.getfield 62, 3) := by decide +kernel
theorem dX6_reading_57 : decode cX6_reading 57 = .ok (.bipush 13, 2) := by decide +kernel
theorem dX6_reading_59 : decode cX6_reading 59 = .ok (.iload_n 1, 1) := by decide +kernel
theorem dX6_reading_60 : decode cX6_reading 60 = .ok (.imul, 1) := by decide +kernel
theorem dX6_reading_61 : decode cX6_reading 61 = .ok (.iload_n 2, 1) := by decide +kernel
theorem dX6_reading_62 : decode cX6_reading 62 = .ok (.iadd, 1) := by decide +kernel
theorem dX6_reading_63 : decode cX6_reading 63 = .ok (.iaload, 1) := by decide +kernel
theorem dX6_reading_64 : decode cX6_reading 64 = .ok (.ireturn, 1) := by decide +kernel
theorem dX6_placeOf_0 : decode cX6_placeOf 0 = .ok (.aload_n 0, 1) := by decide +kernel
theorem dX6_placeOf_1 : decode cX6_placeOf 1 = .ok (.iload_n 1, 1) := by decide +kernel
theorem dX6_placeOf_2 : decode cX6_placeOf 2 = .ok (.iload_n 2, 1) := by decide +kernel
theorem dX6_placeOf_3 : decode cX6_placeOf 3 = .ok (.invokevirtual 121, 3) := by decide +kernel
theorem dX6_placeOf_6 : decode cX6_placeOf 6 = .ok (.ifCond .ne 6, 3) := by decide +kernel
theorem dX6_placeOf_9 : decode cX6_placeOf 9 = .ok (.bipush (-9), 2) := by decide +kernel
theorem dX6_placeOf_11 : decode cX6_placeOf 11 = .ok (.ireturn, 1) := by decide +kernel
theorem dX6_placeOf_12 : decode cX6_placeOf 12 = .ok (.iload_n 1, 1) := by decide +kernel
theorem dX6_placeOf_13 : decode cX6_placeOf 13 = .ok (.iload_n 2, 1) := by decide +kernel
theorem dX6_placeOf_14 : decode cX6_placeOf 14 = .ok (.invokestatic 97, 3) := by decide +kernel
theorem dX6_placeOf_17 : decode cX6_placeOf 17 = .ok (.istore 4, 2) := by decide +kernel
theorem dX6_placeOf_19 : decode cX6_placeOf 19 = .ok (.iload_n 3, 1) := by decide +kernel
theorem dX6_placeOf_20 : decode cX6_placeOf 20 = .ok (.ifCond .ne 13, 3) := by decide +kernel
theorem dX6_placeOf_23 : decode cX6_placeOf 23 = .ok (.aload_n 0, 1) := by decide +kernel
theorem dX6_placeOf_24 : decode cX6_placeOf 24 = .ok (.getfield 26, 3) := by decide +kernel
theorem dX6_placeOf_27 : decode cX6_placeOf 27 = .ok (.iload 4, 2) := by decide +kernel
theorem dX6_placeOf_29 : decode cX6_placeOf 29 = .ok (.iaload, 1) := by decide +kernel
theorem dX6_placeOf_30 : decode cX6_placeOf 30 = .ok (.goto 65, 3) := by decide +kernel
theorem dX6_placeOf_33 : decode cX6_placeOf 33 = .ok (.iload_n 3, 1) := by decide +kernel
theorem dX6_placeOf_34 : decode cX6_placeOf 34 = .ok (.iconst 1, 1) := by decide +kernel
theorem dX6_placeOf_35 : decode cX6_placeOf 35 = .ok (.if_icmp .ne 28, 3) := by decide +kernel
theorem dX6_placeOf_38 : decode cX6_placeOf 38 = .ok (.aload_n 0, 1) := by decide +kernel
theorem dX6_placeOf_39 : decode cX6_placeOf 39 = .ok (.getfield 29, 3) := by decide +kernel
theorem dX6_placeOf_42 : decode cX6_placeOf 42 = .ok (.iload 4, 2) := by decide +kernel
theorem dX6_placeOf_44 : decode cX6_placeOf 44 = .ok (.iaload, 1) := by decide +kernel
theorem dX6_placeOf_45 : decode cX6_placeOf 45 = .ok (.ifCond .ge 8, 3) := by decide +kernel
theorem dX6_placeOf_48 : decode cX6_placeOf 48 = .ok (.bipush (-9), 2) := by decide +kernel
theorem dX6_placeOf_50 : decode cX6_placeOf 50 = .ok (.goto 45, 3) := by decide +kernel
theorem dX6_placeOf_53 : decode cX6_placeOf 53 = .ok (.aload_n 0, 1) := by decide +kernel
theorem dX6_placeOf_54 : decode cX6_placeOf 54 = .ok (.getfield 29, 3) := by decide +kernel
theorem dX6_placeOf_57 : decode cX6_placeOf 57 = .ok (.iload 4, 2) := by decide +kernel
theorem dX6_placeOf_59 : decode cX6_placeOf 59 = .ok (.iaload, 1) := by decide +kernel
theorem dX6_placeOf_60 : decode cX6_placeOf 60 = .ok (.goto 35, 3) := by decide +kernel
theorem dX6_placeOf_63 : decode cX6_placeOf 63 = .ok (.iload_n 3, 1) := by decide +kernel
theorem dX6_placeOf_64 : decode cX6_placeOf 64 = .ok (.iconst 2, 1) := by decide +kernel
theorem dX6_placeOf_65 : decode cX6_placeOf 65 = .ok (.if_icmp .ne 28, 3) := by decide +kernel
theorem dX6_placeOf_68 : decode cX6_placeOf 68 = .ok (.aload_n 0, 1) := by decide +kernel
theorem dX6_placeOf_69 : decode cX6_placeOf 69 = .ok (.getfield 32, 3) := by decide +kernel
theorem dX6_placeOf_72 : decode cX6_placeOf 72 = .ok (.iload 4, 2) := by decide +kernel
theorem dX6_placeOf_74 : decode cX6_placeOf 74 = .ok (.iaload, 1) := by decide +kernel
theorem dX6_placeOf_75 : decode cX6_placeOf 75 = .ok (.ifCond .ge 8, 3) := by decide +kernel
theorem dX6_placeOf_78 : decode cX6_placeOf 78 = .ok (.bipush (-9), 2) := by decide +kernel
theorem dX6_placeOf_80 : decode cX6_placeOf 80 = .ok (.goto 15, 3) := by decide +kernel
theorem dX6_placeOf_83 : decode cX6_placeOf 83 = .ok (.aload_n 0, 1) := by decide +kernel
theorem dX6_placeOf_84 : decode cX6_placeOf 84 = .ok (.getfield 32, 3) := by decide +kernel
theorem dX6_placeOf_87 : decode cX6_placeOf 87 = .ok (.iload 4, 2) := by decide +kernel
theorem dX6_placeOf_89 : decode cX6_placeOf 89 = .ok (.iaload, 1) := by decide +kernel
theorem dX6_placeOf_90 : decode cX6_placeOf 90 = .ok (.goto 5, 3) := by decide +kernel
theorem dX6_placeOf_93 : decode cX6_placeOf 93 = .ok (.bipush (-9), 2) := by decide +kernel
theorem dX6_placeOf_95 : decode cX6_placeOf 95 = .ok (.ireturn, 1) := by decide +kernel
theorem dX6_count_0 : decode cX6_count 0 = .ok (.iload_n 1, 1) := by decide +kernel
theorem dX6_count_1 : decode cX6_count 1 = .ok (.bipush 10, 2) := by decide +kernel
theorem dX6_count_3 : decode cX6_count 3 = .ok (.if_icmp .le 19, 3) := by decide +kernel
theorem dX6_count_6 : decode cX6_count 6 = .ok (.iload_n 1, 1) := by decide +kernel
theorem dX6_count_7 : decode cX6_count 7 = .ok (.bipush 17, 2) := by decide +kernel
theorem dX6_count_9 : decode cX6_count 9 = .ok (.if_icmp .ge 13, 3) := by decide +kernel
theorem dX6_count_12 : decode cX6_count 12 = .ok (.aload_n 0, 1) := by decide +kernel
theorem dX6_count_13 : decode cX6_count 13 = .ok (.getfield 7, 3) := by decide +kernel
theorem dX6_count_16 : decode cX6_count 16 = .ok (.iload_n 1, 1) := by decide +kernel
theorem dX6_count_17 : decode cX6_count 17 = .ok (.bipush 10, 2) := by decide +kernel
theorem dX6_count_19 : decode cX6_count 19 = .ok (.isub, 1) := by decide +kernel
theorem dX6_count_20 : decode cX6_count 20 = .ok (.iaload, 1) := by decide +kernel
theorem dX6_count_21 : decode cX6_count 21 = .ok (.ireturn, 1) := by decide +kernel
theorem dX6_count_22 : decode cX6_count 22 = .ok (.iconst 0, 1) := by decide +kernel
theorem dX6_count_23 : decode cX6_count 23 = .ok (.istore_n 2, 1) := by decide +kernel
theorem dX6_count_24 : decode cX6_count 24 = .ok (.iload_n 1, 1) := by decide +kernel
theorem dX6_count_25 : decode cX6_count 25 = .ok (.tableswitch 140 0 7 #[47, 52, 57, 62, 62, 62, 62, 135], 47) := by decide +kernel
theorem dX6_count_72 : decode cX6_count 72 = .ok (.aload_n 0, 1) := by decide +kernel
theorem dX6_count_73 : decode cX6_count 73 = .ok (.getfield 104, 3) := by decide +kernel
theorem dX6_count_76 : decode cX6_count 76 = .ok (.ireturn, 1) := by decide +kernel
theorem dX6_count_77 : decode cX6_count 77 = .ok (.aload_n 0, 1) := by decide +kernel
theorem dX6_count_78 : decode cX6_count 78 = .ok (.getfield 86, 3) := by decide +kernel
theorem dX6_count_81 : decode cX6_count 81 = .ok (.ireturn, 1) := by decide +kernel
theorem dX6_count_82 : decode cX6_count 82 = .ok (.aload_n 0, 1) := by decide +kernel
theorem dX6_count_83 : decode cX6_count 83 = .ok (.getfield 107, 3) := by decide +kernel
theorem dX6_count_86 : decode cX6_count 86 = .ok (.ireturn, 1) := by decide +kernel
theorem dX6_count_87 : decode cX6_count 87 = .ok (.iconst 0, 1) := by decide +kernel
theorem dX6_count_88 : decode cX6_count 88 = .ok (.istore_n 3, 1) := by decide +kernel
theorem dX6_count_89 : decode cX6_count 89 = .ok (.iload_n 3, 1) := by decide +kernel
theorem dX6_count_90 : decode cX6_count 90 = .ok (.aload_n 0, 1) := by decide +kernel
theorem dX6_count_91 : decode cX6_count 91 = .ok (.getfield 107, 3) := by decide +kernel
theorem dX6_count_94 : decode cX6_count 94 = .ok (.if_icmp .ge 64, 3) := by decide +kernel
theorem dX6_count_97 : decode cX6_count 97 = .ok (.iload_n 2, 1) := by decide +kernel
theorem dX6_count_98 : decode cX6_count 98 = .ok (.iload_n 1, 1) := by decide +kernel
theorem dX6_count_99 : decode cX6_count 99 = .ok (.iconst 4, 1) := by decide +kernel
theorem dX6_count_100 : decode cX6_count 100 = .ok (.if_icmp .ne 15, 3) := by decide +kernel
theorem dX6_count_103 : decode cX6_count 103 = .ok (.aload_n 0, 1) := by decide +kernel
theorem dX6_count_104 : decode cX6_count 104 = .ok (.getfield 50, 3) := by decide +kernel
theorem dX6_count_107 : decode cX6_count 107 = .ok (.iload_n 3, 1) := by decide +kernel
theorem dX6_count_108 : decode cX6_count 108 = .ok (.iaload, 1) := by decide +kernel
theorem dX6_count_109 : decode cX6_count 109 = .ok (.ifCond .lt 40, 3) := by decide +kernel
theorem dX6_count_112 : decode cX6_count 112 = .ok (.goto 33, 3) := by decide +kernel
theorem dX6_count_115 : decode cX6_count 115 = .ok (.aload_n 0, 1) := by decide +kernel
theorem dX6_count_116 : decode cX6_count 116 = .ok (.getfield 50, 3) := by decide +kernel
theorem dX6_count_119 : decode cX6_count 119 = .ok (.iload_n 3, 1) := by decide +kernel
theorem dX6_count_120 : decode cX6_count 120 = .ok (.iaload, 1) := by decide +kernel
theorem dX6_count_121 : decode cX6_count 121 = .ok (.iload_n 1, 1) := by decide +kernel
theorem dX6_count_122 : decode cX6_count 122 = .ok (.iconst 3, 1) := by decide +kernel
theorem dX6_count_123 : decode cX6_count 123 = .ok (.if_icmp .ne 7, 3) := by decide +kernel
theorem dX6_count_126 : decode cX6_count 126 = .ok (.iconst (-1), 1) := by decide +kernel
theorem dX6_count_127 : decode cX6_count 127 = .ok (.goto 15, 3) := by decide +kernel
theorem dX6_count_130 : decode cX6_count 130 = .ok (.iload_n 1, 1) := by decide +kernel
theorem dX6_count_131 : decode cX6_count 131 = .ok (.iconst 5, 1) := by decide +kernel
theorem dX6_count_132 : decode cX6_count 132 = .ok (.if_icmp .ne 8, 3) := by decide +kernel
theorem dX6_count_135 : decode cX6_count 135 = .ok (.bipush (-2), 2) := by decide +kernel
theorem dX6_count_137 : decode cX6_count 137 = .ok (.goto 5, 3) := by decide +kernel
theorem dX6_count_140 : decode cX6_count 140 = .ok (.bipush (-3), 2) := by decide +kernel
theorem dX6_count_142 : decode cX6_count 142 = .ok (.if_icmp .ne 7, 3) := by decide +kernel
theorem dX6_count_145 : decode cX6_count 145 = .ok (.iconst 1, 1) := by decide +kernel
theorem dX6_count_146 : decode cX6_count 146 = .ok (.goto 4, 3) := by decide +kernel
theorem dX6_count_149 : decode cX6_count 149 = .ok (.iconst 0, 1) := by decide +kernel
theorem dX6_count_150 : decode cX6_count 150 = .ok (.iadd, 1) := by decide +kernel
theorem dX6_count_151 : decode cX6_count 151 = .ok (.istore_n 2, 1) := by decide +kernel
theorem dX6_count_152 : decode cX6_count 152 = .ok (.iinc 3 1, 3) := by decide +kernel
theorem dX6_count_155 : decode cX6_count 155 = .ok (.goto (-66), 3) := by decide +kernel
theorem dX6_count_158 : decode cX6_count 158 = .ok (.iload_n 2, 1) := by decide +kernel
theorem dX6_count_159 : decode cX6_count 159 = .ok (.ireturn, 1) := by decide +kernel
theorem dX6_count_160 : decode cX6_count 160 = .ok (.aload_n 0, 1) := by decide +kernel
theorem dX6_count_161 : decode cX6_count 161 = .ok (.getfield 101, 3) := by decide +kernel
theorem dX6_count_164 : decode cX6_count 164 = .ok (.ireturn, 1) := by decide +kernel
theorem dX6_count_165 : decode cX6_count 165 = .ok (.bipush (-9), 2) := by decide +kernel
theorem dX6_count_167 : decode cX6_count 167 = .ok (.ireturn, 1) := by decide +kernel
