theorem dX6_tries_15 : decode cX6_tries 15 = .ok (.iconst 0, 1) := by decide +kernel
theorem dX6_tries_16 : decode cX6_tries 16 = .ok (.istore_n 3, 1) := by decide +kernel
theorem dX6_tries_17 : decode cX6_tries 17 = .ok (.iconst 0, 1) := by decide +kernel
theorem dX6_tries_18 : decode cX6_tries 18 = .ok (.istore 4, 2) := by decide +kernel
theorem dX6_tries_20 : decode cX6_tries 20 = .ok (.iload 4, 2) := by decide +kernel
theorem dX6_tries_22 : decode cX6_tries 22 = .ok (.aload_n 0, 1) := by decide +kernel
theorem dX6_tries_23 : decode cX6_tries 23 = .ok (.getfield 23, 3) := by decide +kernel
theorem dX6_tries_26 : decode cX6_tries 26 = .ok (.iload_n 1, 1) := by decide +kernel
theorem dX6_tries_27 : decode cX6_tries 27 = .ok (.iaload, 1) := by decide +kernel
theorem dX6_tries_28 : decode cX6_tries 28 = .ok (.if_icmp .ge 34, 3) := by decide +kernel
theorem dX6_tries_31 : decode cX6_tries 31 = .ok (.iload_n 3, 1) := by decide +kernel
theorem dX6_tries_32 : decode cX6_tries 32 = .ok (.ifCond .ne 18, 3) := by decide +kernel
theorem dX6_tries_35 : decode cX6_tries 35 = .ok (.aload_n 0, 1) := by decide +kernel
theorem dX6_tries_36 : decode cX6_tries 36 = .ok (.getfield 29, 3) := by decide +kernel
theorem dX6_tries_39 : decode cX6_tries 39 = .ok (.iload_n 1, 1) := by decide +kernel
theorem dX6_tries_40 : decode cX6_tries 40 = .ok (.iload 4, 2) := by decide +kernel
theorem dX6_tries_42 : decode cX6_tries 42 = .ok (.invokestatic 97, 3) := by decide +kernel
theorem dX6_tries_45 : decode cX6_tries 45 = .ok (.iaload, 1) := by decide +kernel
theorem dX6_tries_46 : decode cX6_tries 46 = .ok (.iload_n 2, 1) := by decide +kernel
theorem dX6_tries_47 : decode cX6_tries 47 = .ok (.if_icmp .ne 7, 3) := by decide +kernel
theorem dX6_tries_50 : decode cX6_tries 50 = .ok (.iconst 1, 1) := by decide +kernel
theorem dX6_tries_51 : decode cX6_tries 51 = .ok (.goto 4, 3) := by decide +kernel
theorem dX6_tries_54 : decode cX6_tries 54 = .ok (.iconst 0, 1) := by decide +kernel
theorem dX6_tries_55 : decode cX6_tries 55 = .ok (.istore_n 3, 1) := by decide +kernel
theorem dX6_tries_56 : decode cX6_tries 56 = .ok (.iinc 4 1, 3) := by decide +kernel
theorem dX6_tries_59 : decode cX6_tries 59 = .ok (.goto (-39), 3) := by decide +kernel
theorem dX6_tries_62 : decode cX6_tries 62 = .ok (.iload_n 3, 1) := by decide +kernel
theorem dX6_tries_63 : decode cX6_tries 63 = .ok (.ifCond .ne 6, 3) := by decide +kernel
theorem dX6_tries_66 : decode cX6_tries 66 = .ok (.goto 64, 3) := by decide +kernel
theorem dX6_tries_69 : decode cX6_tries 69 = .ok (.aload_n 0, 1) := by decide +kernel
theorem dX6_tries_70 : decode cX6_tries 70 = .ok (.getfield 74, 3) := by decide +kernel
theorem dX6_tries_73 : decode cX6_tries 73 = .ok (.aload_n 0, 1) := by decide +kernel
theorem dX6_tries_74 : decode cX6_tries 74 = .ok (.getfield 176, 3) := by decide +kernel
theorem dX6_tries_77 : decode cX6_tries 77 = .ok (.iload_n 2, 1) := by decide +kernel
theorem dX6_tries_78 : decode cX6_tries 78 = .ok (.iastore, 1) := by decide +kernel
theorem dX6_tries_79 : decode cX6_tries 79 = .ok (.iconst 0, 1) := by decide +kernel
theorem dX6_tries_80 : decode cX6_tries 80 = .ok (.istore 4, 2) := by decide +kernel
theorem dX6_tries_82 : decode cX6_tries 82 = .ok (.iload 4, 2) := by decide +kernel
theorem dX6_tries_84 : decode cX6_tries 84 = .ok (.iconst 5, 1) := by decide +kernel
theorem dX6_tries_85 : decode cX6_tries 85 = .ok (.if_icmp .ge 35, 3) := by decide +kernel
theorem dX6_tries_88 : decode cX6_tries 88 = .ok (.aload_n 0, 1) := by decide +kernel
theorem dX6_tries_89 : decode cX6_tries 89 = .ok (.getfield 83, 3) := by decide +kernel
theorem dX6_tries_92 : decode cX6_tries 92 = .ok (.iconst 5, 1) := by decide +kernel
theorem dX6_tries_93 : decode cX6_tries 93 = .ok (.aload_n 0, 1) := by decide +kernel
theorem dX6_tries_94 : decode cX6_tries 94 = .ok (.getfield 176, 3) := by decide +kernel
theorem dX6_tries_97 : decode cX6_tries 97 = .ok (.imul, 1) := by decide +kernel
theorem dX6_tries_98 : decode cX6_tries 98 = .ok (.iload 4, 2) := by decide +kernel
theorem dX6_tries_100 : decode cX6_tries 100 = .ok (.iadd, 1) := by decide +kernel
theorem dX6_tries_101 : decode cX6_tries 101 = .ok (.aload_n 0, 1) := by decide +kernel
theorem dX6_tries_102 : decode cX6_tries 102 = .ok (.iload_n 2, 1) := by decide +kernel
theorem dX6_tries_103 : decode cX6_tries 103 = .ok (.aload_n 0, 1) := by decide +kernel
theorem dX6_tries_104 : decode cX6_tries 104 = .ok (.getfield 13, 3) := by decide +kernel
theorem dX6_tries_107 : decode cX6_tries 107 = .ok (.iload 4, 2) := by decide +kernel
theorem dX6_tries_109 : decode cX6_tries 109 = .ok (.iaload, 1) := by decide +kernel
theorem dX6_tries_110 : decode cX6_tries 110 = .ok (.invokevirtual 161, 3) := by decide +kernel
theorem dX6_tries_113 : decode cX6_tries 113 = .ok (.iastore, 1) := by decide +kernel
theorem dX6_tries_114 : decode cX6_tries 114 = .ok (.iinc 4 1, 3) := by decide +kernel
theorem dX6_tries_117 : decode cX6_tries 117 = .ok (.goto (-35), 3) := by decide +kernel
theorem dX6_tries_120 : decode cX6_tries 120 = .ok (.aload_n 0, 1) := by decide +kernel
theorem dX6_tries_121 : decode cX6_tries 121 = .ok (.dup, 1) := by decide +kernel
theorem dX6_tries_122 : decode cX6_tries 122 = .ok (.getfield 176, 3) := by decide +kernel
theorem dX6_tries_125 : decode cX6_tries 125 = .ok (.iconst 1, 1) := by decide +kernel
theorem dX6_tries_126 : decode cX6_tries 126 = .ok (.iadd, 1) := by decide +kernel
theorem dX6_tries_127 : decode cX6_tries 127 = .ok (.putfield 176, 3) := by decide +kernel
theorem dX6_tries_130 : decode cX6_tries 130 = .ok (.iinc 2 1, 3) := by decide +kernel
theorem dX6_tries_133 : decode cX6_tries 133 = .ok (.goto (-126), 3) := by decide +kernel
theorem dX6_tries_136 : decode cX6_tries 136 = .ok (.aload_n 0, 1) := by decide +kernel
theorem dX6_tries_137 : decode cX6_tries 137 = .ok (.iconst (-1), 1) := by decide +kernel
theorem dX6_tries_138 : decode cX6_tries 138 = .ok (.putfield 179, 3) := by decide +kernel
theorem dX6_tries_141 : decode cX6_tries 141 = .ok (.aload_n 0, 1) := by decide +kernel
theorem dX6_tries_142 : decode cX6_tries 142 = .ok (.getfield 176, 3) := by decide +kernel
theorem dX6_tries_145 : decode cX6_tries 145 = .ok (.ifCond .le 13, 3) := by decide +kernel
theorem dX6_tries_148 : decode cX6_tries 148 = .ok (.aload_n 0, 1) := by decide +kernel
theorem dX6_tries_149 : decode cX6_tries 149 = .ok (.iload_n 1, 1) := by decide +kernel
theorem dX6_tries_150 : decode cX6_tries 150 = .ok (.iconst 0, 1) := by decide +kernel
theorem dX6_tries_151 : decode cX6_tries 151 = .ok (.iconst 0, 1) := by decide +kernel
theorem dX6_tries_152 : decode cX6_tries 152 = .ok (.ldc 152, 2) := by decide +kernel
theorem dX6_tries_154 : decode cX6_tries 154 = .ok (.iconst 0, 1) := by decide +kernel
theorem dX6_tries_155 : decode cX6_tries 155 = .ok (.invokevirtual 182, 3) := by decide +kernel
theorem dX6_tries_158 : decode cX6_tries 158 = .ok (.aload_n 0, 1) := by decide +kernel
theorem dX6_tries_159 : decode cX6_tries 159 = .ok (.getfield 179, 3) := by decide +kernel
theorem dX6_tries_162 : decode cX6_tries 162 = .ok (.ifCond .lt 7, 3) := by decide +kernel
theorem dX6_tries_165 : decode cX6_tries 165 = .ok (.iconst 1, 1) := by decide +kernel
theorem dX6_tries_166 : decode cX6_tries 166 = .ok (.goto 4, 3) := by decide +kernel
theorem dX6_tries_169 : decode cX6_tries 169 = .ok (.iconst 0, 1) := by decide +kernel
theorem dX6_tries_170 : decode cX6_tries 170 = .ok (.ireturn, 1) := by decide +kernel
theorem dX6_lay_0 : decode cX6_lay 0 = .ok (.iload_n 2, 1) := by decide +kernel
theorem dX6_lay_1 : decode cX6_lay 1 = .ok (.aload_n 0, 1) := by decide +kernel
theorem dX6_lay_2 : decode cX6_lay 2 = .ok (.getfield 23, 3) := by decide +kernel
theorem dX6_lay_5 : decode cX6_lay 5 = .ok (.iload_n 1, 1) := by decide +kernel
theorem dX6_lay_6 : decode cX6_lay 6 = .ok (.iaload, 1) := by decide +kernel
theorem dX6_lay_7 : decode cX6_lay 7 = .ok (.if_icmp .ne 85, 3) := by decide +kernel
theorem dX6_lay_10 : decode cX6_lay 10 = .ok (.iload_n 3, 1) := by decide +kernel
theorem dX6_lay_11 : decode cX6_lay 11 = .ok (.iconst 1, 1) := by decide +kernel
theorem dX6_lay_12 : decode cX6_lay 12 = .ok (.aload_n 0, 1) := by decide +kernel
theorem dX6_lay_13 : decode cX6_lay 13 = .ok (.getfield 176, 3) := by decide +kernel
theorem dX6_lay_16 : decode cX6_lay 16 = .ok (.ishl, 1) := by decide +kernel
theorem dX6_lay_17 : decode cX6_lay 17 = .ok (.iconst 1, 1) := by decide +kernel
theorem dX6_lay_18 : decode cX6_lay 18 = .ok (.isub, 1) := by decide +kernel
theorem dX6_lay_19 : decode cX6_lay 19 = .ok (.if_icmp .ne 30, 3) := by decide +kernel
theorem dX6_lay_22 : decode cX6_lay 22 = .ok (.iload 4, 2) := by decide +kernel
theorem dX6_lay_24 : decode cX6_lay 24 = .ok (.aload_n 0, 1) := by decide +kernel
theorem dX6_lay_25 : decode cX6_lay 25 = .ok (.getfield 179, 3) := by decide +kernel
theorem dX6_lay_28 : decode cX6_lay 28 = .ok (.if_icmp .lt 21, 3) := by decide +kernel
theorem dX6_lay_31 : decode cX6_lay 31 = .ok (.iload 4, 2) := by decide +kernel
theorem dX6_lay_33 : decode cX6_lay 33 = .ok (.aload_n 0, 1) := by decide +kernel
theorem dX6_lay_34 : decode cX6_lay 34 = .ok (.getfield 179, 3) := by decide +kernel
theorem dX6_lay_37 : decode cX6_lay 37 = .ok (.if_icmp .ne 13, 3) := by decide +kernel
theorem dX6_lay_40 : decode cX6_lay 40 = .ok (.iload 5, 2) := by decide +kernel
theorem dX6_lay_42 : decode cX6_lay 42 = .ok (.aload_n 0, 1) := by decide +kernel
theorem dX6_lay_43 : decode cX6_lay 43 = .ok (.getfield 186, 3) := by decide +kernel
theorem dX6_lay_46 : decode cX6_lay 46 = .ok (.if_icmp .lt 4, 3) := by decide +kernel
theorem dX6_lay_49 : decode cX6_lay 49 = .ok (.return_, 1) := by decide +kernel
theorem dX6_lay_50 : decode cX6_lay 50 = .ok (.aload_n 0, 1) := by decide +kernel
theorem dX6_lay_51 : decode cX6_lay 51 = .ok (.iload 4, 2) := by decide +kernel
theorem dX6_lay_53 : decode cX6_lay 53 = .ok (.putfield 179, 3) := by decide +kernel
theorem dX6_lay_56 : decode cX6_lay 56 = .ok (.aload_n 0, 1) := by decide +kernel
theorem dX6_lay_57 : decode cX6_lay 57 = .ok (.iload 5, 2) := by decide +kernel
theorem dX6_lay_59 : decode cX6_lay 59 = .ok (.putfield 186, 3) := by decide +kernel
theorem dX6_lay_62 : decode cX6_lay 62 = .ok (.iconst 0, 1) := by decide +kernel
theorem dX6_lay_63 : decode cX6_lay 63 = .ok (.istore 6, 2) := by decide +kernel
theorem dX6_lay_65 : decode cX6_lay 65 = .ok (.iload 6, 2) := by decide +kernel
theorem dX6_lay_67 : decode cX6_lay 67 = .ok (.iload_n 2, 1) := by decide +kernel
theorem dX6_lay_68 : decode cX6_lay 68 = .ok (.if_icmp .ge 23, 3) := by decide +kernel
theorem dX6_lay_71 : decode cX6_lay 71 = .ok (.aload_n 0, 1) := by decide +kernel
theorem dX6_lay_72 : decode cX6_lay 72 = .ok (.getfield 80, 3) := by decide +kernel
theorem dX6_lay_75 : decode cX6_lay 75 = .ok (.iload 6, 2) := by decide +kernel
theorem dX6_lay_77 : decode cX6_lay 77 = .ok (.aload_n 0, 1) := by decide +kernel
theorem dX6_lay_78 : decode cX6_lay 78 = .ok (.getfield 77, 3) := by decide +kernel
theorem dX6_lay_81 : decode cX6_lay 81 = .ok (.iload 6, 2) := by decide +kernel
theorem dX6_lay_83 : decode cX6_lay 83 = .ok (.iaload, 1) := by decide +kernel
theorem dX6_lay_84 : decode cX6_lay 84 = .ok (.iastore, 1) := by decide +kernel
theorem dX6_lay_85 : decode cX6_lay 85 = .ok (.iinc 6 1, 3) := by decide +kernel
theorem dX6_lay_88 : decode cX6_lay 88 = .ok (.goto (-23), 3) := by decide +kernel
theorem dX6_lay_91 : decode cX6_lay 91 = .ok (.return_, 1) := by decide +kernel
theorem dX6_lay_92 : decode cX6_lay 92 = .ok (.iload_n 1, 1) := by decide +kernel
theorem dX6_lay_93 : decode cX6_lay 93 = .ok (.iload_n 2, 1) := by decide +kernel
theorem dX6_lay_94 : decode cX6_lay 94 = .ok (.invokestatic 97, 3) := by decide +kernel
theorem dX6_lay_97 : decode cX6_lay 97 = .ok (.istore 6, 2) := by decide +kernel
theorem dX6_lay_99 : decode cX6_lay 99 = .ok (.iconst 0, 1) := by decide +kernel
theorem dX6_lay_100 : decode cX6_lay 100 = .ok (.istore 7, 2) := by decide +kernel
theorem dX6_lay_102 : decode cX6_lay 102 = .ok (.iload 7, 2) := by decide +kernel
theorem dX6_lay_104 : decode cX6_lay 104 = .ok (.aload_n 0, 1) := by decide +kernel
theorem dX6_lay_105 : decode cX6_lay 105 = .ok (.getfield 176, 3) := by decide +kernel
theorem dX6_lay_108 : decode cX6_lay 108 = .ok (.if_icmp .ge 137, 3) := by decide +kernel
theorem dX6_lay_111 : decode cX6_lay 111 = .ok (.iload_n 3, 1) := by decide +kernel
theorem dX6_lay_112 : decode cX6_lay 112 = .ok (.iload 7, 2) := by decide +kernel
theorem dX6_lay_114 : decode cX6_lay 114 = .ok (.ishr, 1) := by decide +kernel
theorem dX6_lay_115 : decode cX6_lay 115 = .ok (.iconst 1, 1) := by decide +kernel
theorem dX6_lay_116 : decode cX6_lay 116 = .ok (.iand, 1) := by decide +kernel
theorem dX6_lay_117 : decode cX6_lay 117 = .ok (.iconst 1, 1) := by decide +kernel
theorem dX6_lay_118 : decode cX6_lay 118 = .ok (.if_icmp .eq 121, 3) := by decide +kernel
theorem dX6_lay_121 : decode cX6_lay 121 = .ok (.aload_n 0, 1) := by decide +kernel
theorem dX6_lay_122 : decode cX6_lay 122 = .ok (.getfield 26, 3) := by decide +kernel
theorem dX6_lay_125 : decode cX6_lay 125 = .ok (.iload 6, 2) := by decide +kernel
theorem dX6_lay_127 : decode cX6_lay 127 = .ok (.iaload, 1) := by decide +kernel
theorem dX6_lay_128 : decode cX6_lay 128 = .ok (.ifCond .ne 21, 3) := by decide +kernel
theorem dX6_lay_131 : decode cX6_lay 131 = .ok (.aload_n 0, 1) := by decide +kernel
theorem dX6_lay_132 : decode cX6_lay 132 = .ok (.getfield 41, 3) := by decide +kernel
theorem dX6_lay_135 : decode cX6_lay 135 = .ok (.aload_n 0, 1) := by decide +kernel
theorem dX6_lay_136 : decode cX6_lay 136 = .ok (.getfield 74, 3) := by decide +kernel
theorem dX6_lay_139 : decode cX6_lay 139 = .ok (.iload 7, 2) := by decide +kernel
theorem dX6_lay_141 : decode cX6_lay 141 = .ok (.iaload, 1) := by decide +kernel
theorem dX6_lay_142 : decode cX6_lay 142 = .ok (.iaload, 1) := by decide +kernel
theorem dX6_lay_143 : decode cX6_lay 143 = .ok (.ifCond .le 6, 3) := by decide +kernel
theorem dX6_lay_146 : decode cX6_lay 146 = .ok (.goto 93, 3) := by decide +kernel
theorem dX6_lay_149 : decode cX6_lay 149 = .ok (.aload_n 0, 1) := by decide +kernel
theorem dX6_lay_150 : decode cX6_lay 150 = .ok (.getfield 77, 3) := by decide +kernel
theorem dX6_lay_153 : decode cX6_lay 153 = .ok (.iload_n 2, 1) := by decide +kernel
theorem dX6_lay_154 : decode cX6_lay 154 = .ok (.aload_n 0, 1) := by decide +kernel
theorem dX6_lay_155 : decode cX6_lay 155 = .ok (.getfield 74, 3) := by decide +kernel
theorem dX6_lay_158 : decode cX6_lay 158 = .ok (.iload 7, 2) := by decide +kernel
theorem dX6_lay_160 : decode cX6_lay 160 = .ok (.iaload, 1) := by decide +kernel
theorem dX6_lay_161 : decode cX6_lay 161 = .ok (.iastore, 1) := by decide +kernel
theorem dX6_lay_162 : decode cX6_lay 162 = .ok (.aload_n 0, 1) := by decide +kernel
theorem dX6_lay_163 : decode cX6_lay 163 = .ok (.iload_n 1, 1) := by decide +kernel
theorem dX6_lay_164 : decode cX6_lay 164 = .ok (.iload_n 2, 1) := by decide +kernel
theorem dX6_lay_165 : decode cX6_lay 165 = .ok (.iconst 1, 1) := by decide +kernel
theorem dX6_lay_166 : decode cX6_lay 166 = .ok (.iadd, 1) := by decide +kernel
theorem dX6_lay_167 : decode cX6_lay 167 = .ok (.iload_n 3, 1) := by decide +kernel
theorem dX6_lay_168 : decode cX6_lay 168 = .ok (.iconst 1, 1) := by decide +kernel
theorem dX6_lay_169 : decode cX6_lay 169 = .ok (.iload 7, 2) := by decide +kernel
theorem dX6_lay_171 : decode cX6_lay 171 = .ok (.ishl, 1) := by decide +kernel
theorem dX6_lay_172 : decode cX6_lay 172 = .ok (.ior, 1) := by decide +kernel
theorem dX6_lay_173 : decode cX6_lay 173 = .ok (.aload_n 0, 1) := by decide +kernel
theorem dX6_lay_174 : decode cX6_lay 174 = .ok (.getfield 26, 3) := by decide +kernel
theorem dX6_lay_177 : decode cX6_lay 177 = .ok (.iload 6, 2) := by decide +kernel
theorem dX6_lay_179 : decode cX6_lay 179 = .ok (.iaload, 1) := by decide +kernel
theorem dX6_lay_180 : decode cX6_lay 180 = .ok (.iconst 4, 1) := by decide +kernel
theorem dX6_lay_181 : decode cX6_lay 181 = .ok (.if_icmp .ne 8, 3) := by decide +kernel
theorem dX6_lay_184 : decode cX6_lay 184 = .ok (.iload 4, 2) := by decide +kernel
theorem dX6_lay_186 : decode cX6_lay 186 = .ok (.goto 25, 3) := by decide +kernel
theorem dX6_lay_189 : decode cX6_lay 189 = .ok (.iload 4, 2) := by decide +kernel
theorem dX6_lay_191 : decode cX6_lay 191 = .ok (.aload_n 0, 1) := by decide +kernel
theorem dX6_lay_192 : decode cX6_lay 192 = .ok (.getfield 83, 3) := by decide +kernel
theorem dX6_lay_195 : decode cX6_lay 195 = .ok (.iconst 5, 1) := by decide +kernel
theorem dX6_lay_196 : decode cX6_lay 196 = .ok (.iload 7, 2) := by decide +kernel
theorem dX6_lay_198 : decode cX6_lay 198 = .ok (.imul, 1) := by decide +kernel
theorem dX6_lay_199 : decode cX6_lay 199 = .ok (.aload_n 0, 1) := by decide +kernel
theorem dX6_lay_200 : decode cX6_lay 200 = .ok (.getfield 26, 3) := by decide +kernel
theorem dX6_lay_203 : decode cX6_lay 203 = .ok (.iload 6, 2) := by decide +kernel
theorem dX6_lay_205 : decode cX6_lay 205 = .ok (.iaload, 1) := by decide +kernel
theorem dX6_lay_206 : decode cX6_lay 206 = .ok (.iadd, 1) := by decide +kernel
theorem dX6_lay_207 : decode cX6_lay 207 = .ok (.iaload, 1) := by decide +kernel
theorem dX6_lay_208 : decode cX6_lay 208 = .ok (.invokestatic 164, 3) := by decide +kernel
theorem dX6_lay_211 : decode cX6_lay 211 = .ok (.iload 5, 2) := by decide +kernel
theorem dX6_lay_213 : decode cX6_lay 213 = .ok (.aload_n 0, 1) := by decide +kernel
theorem dX6_lay_214 : decode cX6_lay 214 = .ok (.getfield 29, 3) := by decide +kernel
theorem dX6_lay_217 : decode cX6_lay 217 = .ok (.iload 6, 2) := by decide +kernel
theorem dX6_lay_219 : decode cX6_lay 219 = .ok (.iaload, 1) := by decide +kernel
theorem dX6_lay_220 : decode cX6_lay 220 = .ok (.aload_n 0, 1) := by decide +kernel
theorem dX6_lay_221 : decode cX6_lay 221 = .ok (.getfield 74, 3) := by decide +kernel
theorem dX6_lay_224 : decode cX6_lay 224 = .ok (.iload 7, 2) := by decide +kernel
theorem dX6_lay_226 : decode cX6_lay 226 = .ok (.iaload, 1) := by decide +kernel
theorem dX6_lay_227 : decode cX6_lay 227 = .ok (.if_icmp .ne 7, 3) := by decide +kernel
theorem dX6_lay_230 : decode cX6_lay 230 = .ok (.iconst 0, 1) := by decide +kernel
theorem dX6_lay_231 : decode cX6_lay 231 = .ok (.goto 4, 3) := by decide +kernel
theorem dX6_lay_234 : decode cX6_lay 234 = .ok (.iconst 1, 1) := by decide +kernel
theorem dX6_lay_235 : decode cX6_lay 235 = .ok (.iadd, 1) := by decide +kernel
theorem dX6_lay_236 : decode cX6_lay 236 = .ok (.invokevirtual 182, 3) := by decide +kernel
theorem dX6_lay_239 : decode cX6_lay 239 = .ok (.iinc 7 1, 3) := by decide +kernel
theorem dX6_lay_242 : decode cX6_lay 242 = .ok (.goto (-140), 3) := by decide +kernel
theorem dX6_lay_245 : decode cX6_lay 245 = .ok (.aload_n 0, 1) := by decide +kernel
theorem dX6_lay_246 : decode cX6_lay 246 = .ok (.getfield 29, 3) := by decide +kernel
theorem dX6_lay_249 : decode cX6_lay 249 = .ok (.iload 6, 2) := by decide +kernel
theorem dX6_lay_251 : decode cX6_lay 251 = .ok (.iaload, 1) := by decide +kernel
theorem dX6_lay_252 : decode cX6_lay 252 = .ok (.ifCond .lt 15, 3) := by decide +kernel
theorem dX6_lay_255 : decode cX6_lay 255 = .ok (.aload_n 0, 1) := by decide +kernel
theorem dX6_lay_256 : decode cX6_lay 256 = .ok (.getfield 26, 3) := by decide +kernel
theorem dX6_lay_259 : decode cX6_lay 259 = .ok (.iload 6, 2) := by decide +kernel
theorem dX6_lay_261 : decode cX6_lay 261 = .ok (.iaload, 1) := by decide +kernel
theorem dX6_lay_262 : decode cX6_lay 262 = .ok (.iconst 4, 1) := by decide +kernel
theorem dX6_lay_263 : decode cX6_lay 263 = .ok (.if_icmp .eq 4, 3) := by decide +kernel
theorem dX6_lay_266 : decode cX6_lay 266 = .ok (.return_, 1) := by decide +kernel
theorem dX6_lay_267 : decode cX6_lay 267 = .ok (.aload_n 0, 1) := by decide +kernel
theorem dX6_lay_268 : decode cX6_lay 268 = .ok (.getfield 77, 3) := by decide +kernel
theorem dX6_lay_271 : decode cX6_lay 271 = .ok (.iload_n 2, 1) := by decide +kernel
theorem dX6_lay_272 : decode cX6_lay 272 = .ok (.iconst (-1), 1) := by decide +kernel
theorem dX6_lay_273 : decode cX6_lay 273 = .ok (.iastore, 1) := by decide +kernel
theorem dX6_lay_274 : decode cX6_lay 274 = .ok (.aload_n 0, 1) := by decide +kernel
theorem dX6_lay_275 : decode cX6_lay 275 = .ok (.iload_n 1, 1) := by decide +kernel
theorem dX6_lay_276 : decode cX6_lay 276 = .ok (.iload_n 2, 1) := by decide +kernel
theorem dX6_lay_277 : decode cX6_lay 277 = .ok (.iconst 1, 1) := by decide +kernel
theorem dX6_lay_278 : decode cX6_lay 278 = .ok (.iadd, 1) := by decide +kernel
theorem dX6_lay_279 : decode cX6_lay 279 = .ok (.iload_n 3, 1) := by decide +kernel
theorem dX6_lay_280 : decode cX6_lay 280 = .ok (.iload 4, 2) := by decide +kernel
theorem dX6_lay_282 : decode cX6_lay 282 = .ok (.iload 5, 2) := by decide +kernel
theorem dX6_lay_284 : decode cX6_lay 284 = .ok (.invokevirtual 182, 3) := by decide +kernel
theorem dX6_lay_287 : decode cX6_lay 287 = .ok (.return_, 1) := by decide +kernel
theorem dX6_best_0 : decode cX6_best 0 = .ok (.iload_n 1, 1) := by decide +kernel
theorem dX6_best_1 : decode cX6_best 1 = .ok (.aload_n 0, 1) := by decide +kernel
theorem dX6_best_2 : decode cX6_best 2 = .ok (.getfield 86, 3) := by decide +kernel
theorem dX6_best_5 : decode cX6_best 5 = .ok (.invokestatic 89, 3) := by decide +kernel
theorem dX6_best_8 : decode cX6_best 8 = .ok (.ifCond .ne 9, 3) := by decide +kernel
theorem dX6_best_11 : decode cX6_best 11 = .ok (.aload_n 0, 1) := by decide +kernel
theorem dX6_best_12 : decode cX6_best 12 = .ok (.iconst (-1), 1) := by decide +kernel
theorem dX6_best_13 : decode cX6_best 13 = .ok (.invokevirtual 93, 3) := by decide +kernel
theorem dX6_best_16 : decode cX6_best 16 = .ok (.ireturn, 1) := by decide +kernel
theorem dX6_best_17 : decode cX6_best 17 = .ok (.aload_n 0, 1) := by decide +kernel
theorem dX6_best_18 : decode cX6_best 18 = .ok (.iload_n 1, 1) := by decide +kernel
theorem dX6_best_19 : decode cX6_best 19 = .ok (.invokevirtual 189, 3) := by decide +kernel
theorem dX6_best_22 : decode cX6_best 22 = .ok (.ifCond .eq 10, 3) := by decide +kernel
theorem dX6_best_25 : decode cX6_best 25 = .ok (.aload_n 0, 1) := by decide +kernel
theorem dX6_best_26 : decode cX6_best 26 = .ok (.getfield 179, 3) := by decide +kernel
theorem dX6_best_29 : decode cX6_best 29 = .ok (.goto 9, 3) := by decide +kernel
theorem dX6_best_32 : decode cX6_best 32 = .ok (.aload_n 0, 1) := by decide +kernel
theorem dX6_best_33 : decode cX6_best 33 = .ok (.bipush (-2), 2) := by decide +kernel
theorem dX6_best_35 : decode cX6_best 35 = .ok (.invokevirtual 93, 3) := by decide +kernel
theorem dX6_best_38 : decode cX6_best 38 = .ok (.ireturn, 1) := by decide +kernel
theorem dX6_turn_0 : decode cX6_turn 0 = .ok (.iload_n 1, 1) := by decide +kernel
theorem dX6_turn_1 : decode cX6_turn 1 = .ok (.aload_n 0, 1) := by decide +kernel
theorem dX6_turn_2 : decode cX6_turn 2 = .ok (.getfield 86, 3) := by decide +kernel
theorem dX6_turn_5 : decode cX6_turn 5 = .ok (.invokestatic 89, 3) := by decide +kernel
theorem dX6_turn_8 : decode cX6_turn 8 = .ok (.ifCond .ne 9, 3) := by decide +kernel
theorem dX6_turn_11 : decode cX6_turn 11 = .ok (.aload_n 0, 1) := by decide +kernel
theorem dX6_turn_12 : decode cX6_turn 12 = .ok (.iconst (-1), 1) := by decide +kernel
theorem dX6_turn_13 : decode cX6_turn 13 = .ok (.invokevirtual 93, 3) := by decide +kernel
theorem dX6_turn_16 : decode cX6_turn 16 = .ok (.ireturn, 1) := by decide +kernel
theorem dX6_turn_17 : decode cX6_turn 17 = .ok (.aload_n 0, 1) := by decide +kernel
theorem dX6_turn_18 : decode cX6_turn 18 = .ok (.iload_n 1, 1) := by decide +kernel
theorem dX6_turn_19 : decode cX6_turn 19 = .ok (.invokevirtual 189, 3) := by decide +kernel
theorem dX6_turn_22 : decode cX6_turn 22 = .ok (.ifCond .ne 10, 3) := by decide +kernel
theorem dX6_turn_25 : decode cX6_turn 25 = .ok (.aload_n 0, 1) := by decide +kernel
theorem dX6_turn_26 : decode cX6_turn 26 = .ok (.bipush (-2), 2) := by decide +kernel
theorem dX6_turn_28 : decode cX6_turn 28 = .ok (.invokevirtual 93, 3) := by decide +kernel
theorem dX6_turn_31 : decode cX6_turn 31 = .ok (.ireturn, 1) := by decide +kernel
theorem dX6_turn_32 : decode cX6_turn 32 = .ok (.aload_n 0, 1) := by decide +kernel
theorem dX6_turn_33 : decode cX6_turn 33 = .ok (.aload_n 0, 1) := by decide +kernel
theorem dX6_turn_34 : decode cX6_turn 34 = .ok (.getfield 186, 3) := by decide +kernel
theorem dX6_turn_37 : decode cX6_turn 37 = .ok (.invokevirtual 110, 3) := by decide +kernel
theorem dX6_turn_40 : decode cX6_turn 40 = .ok (.ifCond .ne 10, 3) := by decide +kernel
theorem dX6_turn_43 : decode cX6_turn 43 = .ok (.aload_n 0, 1) := by decide +kernel
theorem dX6_turn_44 : decode cX6_turn 44 = .ok (.bipush (-6), 2) := by decide +kernel
theorem dX6_turn_46 : decode cX6_turn 46 = .ok (.invokevirtual 93, 3) := by decide +kernel
theorem dX6_turn_49 : decode cX6_turn 49 = .ok (.ireturn, 1) := by decide +kernel
theorem dX6_turn_50 : decode cX6_turn 50 = .ok (.iconst 0, 1) := by decide +kernel
theorem dX6_turn_51 : decode cX6_turn 51 = .ok (.istore_n 2, 1) := by decide +kernel
theorem dX6_turn_52 : decode cX6_turn 52 = .ok (.iload_n 2, 1) := by decide +kernel
theorem dX6_turn_53 : decode cX6_turn 53 = .ok (.aload_n 0, 1) := by decide +kernel
theorem dX6_turn_54 : decode cX6_turn 54 = .ok (.getfield 23, 3) := by decide +kernel
theorem dX6_turn_57 : decode cX6_turn 57 = .ok (.iload_n 1, 1) := by decide +kernel
theorem dX6_turn_58 : decode cX6_turn 58 = .ok (.iaload, 1) := by decide +kernel
theorem dX6_turn_59 : decode cX6_turn 59 = .ok (.if_icmp .ge 79, 3) := by decide +kernel
theorem dX6_turn_62 : decode cX6_turn 62 = .ok (.aload_n 0, 1) := by decide +kernel
theorem dX6_turn_63 : decode cX6_turn 63 = .ok (.getfield 80, 3) := by decide +kernel
theorem dX6_turn_66 : decode cX6_turn 66 = .ok (.iload_n 2, 1) := by decide +kernel
theorem dX6_turn_67 : decode cX6_turn 67 = .ok (.iaload, 1) := by decide +kernel
theorem dX6_turn_68 : decode cX6_turn 68 = .ok (.ifCond .lt 26, 3) := by decide +kernel
theorem dX6_turn_71 : decode cX6_turn 71 = .ok (.aload_n 0, 1) := by decide +kernel
theorem dX6_turn_72 : decode cX6_turn 72 = .ok (.getfield 80, 3) := by decide +kernel
theorem dX6_turn_75 : decode cX6_turn 75 = .ok (.iload_n 2, 1) := by decide +kernel
theorem dX6_turn_76 : decode cX6_turn 76 = .ok (.iaload, 1) := by decide +kernel
theorem dX6_turn_77 : decode cX6_turn 77 = .ok (.aload_n 0, 1) := by decide +kernel
theorem dX6_turn_78 : decode cX6_turn 78 = .ok (.getfield 29, 3) := by decide +kernel
theorem dX6_turn_81 : decode cX6_turn 81 = .ok (.iload_n 1, 1) := by decide +kernel
theorem dX6_turn_82 : decode cX6_turn 82 = .ok (.iload_n 2, 1) := by decide +kernel
theorem dX6_turn_83 : decode cX6_turn 83 = .ok (.invokestatic 97, 3) := by decide +kernel
theorem dX6_turn_86 : decode cX6_turn 86 = .ok (.iaload, 1) := by decide +kernel
theorem dX6_turn_87 : decode cX6_turn 87 = .ok (.if_icmp .eq 7, 3) := by decide +kernel
theorem dX6_turn_90 : decode cX6_turn 90 = .ok (.iconst 1, 1) := by decide +kernel
theorem dX6_turn_91 : decode cX6_turn 91 = .ok (.goto 4, 3) := by decide +kernel
theorem dX6_turn_94 : decode cX6_turn 94 = .ok (.iconst 0, 1) := by decide +kernel
theorem dX6_turn_95 : decode cX6_turn 95 = .ok (.istore_n 3, 1) := by decide +kernel
theorem dX6_turn_96 : decode cX6_turn 96 = .ok (.aload_n 0, 1) := by decide +kernel
theorem dX6_turn_97 : decode cX6_turn 97 = .ok (.getfield 29, 3) := by decide +kernel
theorem dX6_turn_100 : decode cX6_turn 100 = .ok (.iload_n 1, 1) := by decide +kernel
theorem dX6_turn_101 : decode cX6_turn 101 = .ok (.iload_n 2, 1) := by decide +kernel
theorem dX6_turn_102 : decode cX6_turn 102 = .ok (.invokestatic 97, 3) := by decide +kernel
theorem dX6_turn_105 : decode cX6_turn 105 = .ok (.aload_n 0, 1) := by decide +kernel
theorem dX6_turn_106 : decode cX6_turn 106 = .ok (.getfield 80, 3) := by decide +kernel
theorem dX6_turn_109 : decode cX6_turn 109 = .ok (.iload_n 2, 1) := by decide +kernel
theorem dX6_turn_110 : decode cX6_turn 110 = .ok (.iaload, 1) := by decide +kernel
theorem dX6_turn_111 : decode cX6_turn 111 = .ok (.iastore, 1) := by decide +kernel
theorem dX6_turn_112 : decode cX6_turn 112 = .ok (.iload_n 3, 1) := by decide +kernel
theorem dX6_turn_113 : decode cX6_turn 113 = .ok (.ifCond .eq 19, 3) := by decide +kernel
theorem dX6_turn_116 : decode cX6_turn 116 = .ok (.aload_n 0, 1) := by decide +kernel
theorem dX6_turn_117 : decode cX6_turn 117 = .ok (.aload_n 0, 1) := by decide +kernel
theorem dX6_turn_118 : decode cX6_turn 118 = .ok (.getfield 80, 3) := by decide +kernel
theorem dX6_turn_121 : decode cX6_turn 121 = .ok (.iload_n 2, 1) := by decide +kernel
theorem dX6_turn_122 : decode cX6_turn 122 = .ok (.iaload, 1) := by decide +kernel
theorem dX6_turn_123 : decode cX6_turn 123 = .ok (.bipush 10, 2) := by decide +kernel
theorem dX6_turn_125 : decode cX6_turn 125 = .ok (.iload_n 1, 1) := by decide +kernel
theorem dX6_turn_126 : decode cX6_turn 126 = .ok (.imul, 1) := by decide +kernel
theorem dX6_turn_127 : decode cX6_turn 127 = .ok (.iload_n 2, 1) := by decide +kernel
theorem dX6_turn_128 : decode cX6_turn 128 = .ok (.iadd, 1) := by decide +kernel
theorem dX6_turn_129 : decode cX6_turn 129 = .ok (.invokevirtual 124, 3) := by decide +kernel
theorem dX6_turn_132 : decode cX6_turn 132 = .ok (.iinc 2 1, 3) := by decide +kernel
theorem dX6_turn_135 : decode cX6_turn 135 = .ok (.goto (-83), 3) := by decide +kernel
theorem dX6_turn_138 : decode cX6_turn 138 = .ok (.aload_n 0, 1) := by decide +kernel
theorem dX6_turn_139 : decode cX6_turn 139 = .ok (.getfield 186, 3) := by decide +kernel
theorem dX6_turn_142 : decode cX6_turn 142 = .ok (.ireturn, 1) := by decide +kernel
theorem dX6_wear_0 : decode cX6_wear 0 = .ok (.iload_n 1, 1) := by decide +kernel
theorem dX6_wear_1 : decode cX6_wear 1 = .ok (.aload_n 0, 1) := by decide +kernel
theorem dX6_wear_2 : decode cX6_wear 2 = .ok (.getfield 107, 3) := by decide +kernel
theorem dX6_wear_5 : decode cX6_wear 5 = .ok (.invokestatic 89, 3) := by decide +kernel
theorem dX6_wear_8 : decode cX6_wear 8 = .ok (.ifCond .ne 10, 3) := by decide +kernel
theorem dX6_wear_11 : decode cX6_wear 11 = .ok (.aload_n 0, 1) := by decide +kernel
theorem dX6_wear_12 : decode cX6_wear 12 = .ok (.iconst (-1), 1) := by decide +kernel
theorem dX6_wear_13 : decode cX6_wear 13 = .ok (.invokevirtual 93, 3) := by decide +kernel
theorem dX6_wear_16 : decode cX6_wear 16 = .ok (.i2l, 1) := by decide +kernel
theorem dX6_wear_17 : decode cX6_wear 17 = .ok (.lreturn, 1) := by decide +kernel
theorem dX6_wear_18 : decode cX6_wear 18 = .ok (.iload_n 2, 1) := by decide +kernel
theorem dX6_wear_19 : decode cX6_wear 19 = .ok (.iconst 2, 1) := by decide +kernel
theorem dX6_wear_20 : decode cX6_wear 20 = .ok (.invokestatic 89, 3) := by decide +kernel
theorem dX6_wear_23 : decode cX6_wear 23 = .ok (.ifCond .ne 11, 3) := by decide +kernel
theorem dX6_wear_26 : decode cX6_wear 26 = .ok (.aload_n 0, 1) := by decide +kernel
theorem dX6_wear_27 : decode cX6_wear 27 = .ok (.bipush (-2), 2) := by decide +kernel
theorem dX6_wear_29 : decode cX6_wear 29 = .ok (.invokevirtual 93, 3) := by decide +kernel
theorem dX6_wear_32 : decode cX6_wear 32 = .ok (.i2l, 1) := by decide +kernel
theorem dX6_wear_33 : decode cX6_wear 33 = .ok (.lreturn, 1) := by decide +kernel
theorem dX6_wear_34 : decode cX6_wear 34 = .ok (.aload_n 0, 1) := by decide +kernel
theorem dX6_wear_35 : decode cX6_wear 35 = .ok (.iload_n 1, 1) := by decide +kernel
theorem dX6_wear_36 : decode cX6_wear 36 = .ok (.invokevirtual 137, 3) := by decide +kernel
theorem dX6_wear_39 : decode cX6_wear 39 = .ok (.iload_n 2, 1) := by decide +kernel
theorem dX6_wear_40 : decode cX6_wear 40 = .ok (.ifCond .ne 10, 3) := by decide +kernel
theorem dX6_wear_43 : decode cX6_wear 43 = .ok (.aload_n 0, 1) := by decide +kernel
theorem dX6_wear_44 : decode cX6_wear 44 = .ok (.getfield 128, 3) := by decide +kernel
theorem dX6_wear_47 : decode cX6_wear 47 = .ok (.goto 7, 3) := by decide +kernel
theorem dX6_wear_50 : decode cX6_wear 50 = .ok (.aload_n 0, 1) := by decide +kernel
theorem dX6_wear_51 : decode cX6_wear 51 = .ok (.getfield 132, 3) := by decide +kernel
theorem dX6_wear_54 : decode cX6_wear 54 = .ok (.lreturn, 1) := by decide +kernel
theorem dX6_depth_0 : decode cX6_depth 0 = .ok (.iload_n 1, 1) := by decide +kernel
theorem dX6_depth_1 : decode cX6_depth 1 = .ok (.aload_n 0, 1) := by decide +kernel
theorem dX6_depth_2 : decode cX6_depth 2 = .ok (.getfield 107, 3) := by decide +kernel
theorem dX6_depth_5 : decode cX6_depth 5 = .ok (.invokestatic 89, 3) := by decide +kernel
theorem dX6_depth_8 : decode cX6_depth 8 = .ok (.ifCond .ne 9, 3) := by decide +kernel
theorem dX6_depth_11 : decode cX6_depth 11 = .ok (.aload_n 0, 1) := by decide +kernel
theorem dX6_depth_12 : decode cX6_depth 12 = .ok (.iconst (-1), 1) := by decide +kernel
theorem dX6_depth_13 : decode cX6_depth 13 = .ok (.invokevirtual 93, 3) := by decide +kernel
theorem dX6_depth_16 : decode cX6_depth 16 = .ok (.ireturn, 1) := by decide +kernel
theorem dX6_depth_17 : decode cX6_depth 17 = .ok (.iload_n 2, 1) := by decide +kernel
theorem dX6_depth_18 : decode cX6_depth 18 = .ok (.ifCond .ge 10, 3) := by decide +kernel
theorem dX6_depth_21 : decode cX6_depth 21 = .ok (.aload_n 0, 1) := by decide +kernel
theorem dX6_depth_22 : decode cX6_depth 22 = .ok (.bipush (-4), 2) := by decide +kernel
theorem dX6_depth_24 : decode cX6_depth 24 = .ok (.invokevirtual 93, 3) := by decide +kernel
theorem dX6_depth_27 : decode cX6_depth 27 = .ok (.ireturn, 1) := by decide +kernel
theorem dX6_depth_28 : decode cX6_depth 28 = .ok (.iload_n 2, 1) := by decide +kernel
theorem dX6_depth_29 : decode cX6_depth 29 = .ok (.ldc 152, 2) := by decide +kernel
theorem dX6_depth_31 : decode cX6_depth 31 = .ok (.if_icmp .le 12, 3) := by decide +kernel
theorem dX6_depth_34 : decode cX6_depth 34 = .ok (.aload_n 0, 1) := by decide +kernel
theorem dX6_depth_35 : decode cX6_depth 35 = .ok (.bipush (-6), 2) := by decide +kernel
theorem dX6_depth_37 : decode cX6_depth 37 = .ok (.invokevirtual 93, 3) := by decide +kernel
theorem dX6_depth_40 : decode cX6_depth 40 = .ok (.goto 9, 3) := by decide +kernel
theorem dX6_depth_43 : decode cX6_depth 43 = .ok (.aload_n 0, 1) := by decide +kernel
theorem dX6_depth_44 : decode cX6_depth 44 = .ok (.iload_n 1, 1) := by decide +kernel
theorem dX6_depth_45 : decode cX6_depth 45 = .ok (.iload_n 2, 1) := by decide +kernel
theorem dX6_depth_46 : decode cX6_depth 46 = .ok (.invokevirtual 149, 3) := by decide +kernel
theorem dX6_depth_49 : decode cX6_depth 49 = .ok (.ireturn, 1) := by decide +kernel
theorem dX6_end_0 : decode cX6_end 0 = .ok (.iload_n 1, 1) := by decide +kernel
theorem dX6_end_1 : decode cX6_end 1 = .ok (.aload_n 0, 1) := by decide +kernel
theorem dX6_end_2 : decode cX6_end 2 = .ok (.getfield 107, 3) := by decide +kernel
theorem dX6_end_5 : decode cX6_end 5 = .ok (.invokestatic 89, 3) := by decide +kernel
theorem dX6_end_8 : decode cX6_end 8 = .ok (.ifCond .ne 9, 3) := by decide +kernel
theorem dX6_end_11 : decode cX6_end 11 = .ok (.aload_n 0, 1) := by decide +kernel
theorem dX6_end_12 : decode cX6_end 12 = .ok (.iconst (-1), 1) := by decide +kernel
theorem dX6_end_13 : decode cX6_end 13 = .ok (.invokevirtual 93, 3) := by decide +kernel
theorem dX6_end_16 : decode cX6_end 16 = .ok (.ireturn, 1) := by decide +kernel
theorem dX6_end_17 : decode cX6_end 17 = .ok (.iload_n 2, 1) := by decide +kernel
theorem dX6_end_18 : decode cX6_end 18 = .ok (.ifCond .ge 10, 3) := by decide +kernel
theorem dX6_end_21 : decode cX6_end 21 = .ok (.aload_n 0, 1) := by decide +kernel
theorem dX6_end_22 : decode cX6_end 22 = .ok (.bipush (-4), 2) := by decide +kernel
theorem dX6_end_24 : decode cX6_end 24 = .ok (.invokevirtual 93, 3) := by decide +kernel
theorem dX6_end_27 : decode cX6_end 27 = .ok (.ireturn, 1) := by decide +kernel
theorem dX6_end_28 : decode cX6_end 28 = .ok (.iload_n 2, 1) := by decide +kernel
theorem dX6_end_29 : decode cX6_end 29 = .ok (.sipush 300, 3) := by decide +kernel
theorem dX6_end_32 : decode cX6_end 32 = .ok (.if_icmp .le 12, 3) := by decide +kernel
theorem dX6_end_35 : decode cX6_end 35 = .ok (.aload_n 0, 1) := by decide +kernel
theorem dX6_end_36 : decode cX6_end 36 = .ok (.bipush (-6), 2) := by decide +kernel
theorem dX6_end_38 : decode cX6_end 38 = .ok (.invokevirtual 93, 3) := by decide +kernel
theorem dX6_end_41 : decode cX6_end 41 = .ok (.goto 9, 3) := by decide +kernel
theorem dX6_end_44 : decode cX6_end 44 = .ok (.aload_n 0, 1) := by decide +kernel
theorem dX6_end_45 : decode cX6_end 45 = .ok (.iload_n 1, 1) := by decide +kernel
theorem dX6_end_46 : decode cX6_end 46 = .ok (.iload_n 2, 1) := by decide +kernel
theorem dX6_end_47 : decode cX6_end 47 = .ok (.invokevirtual 161, 3) := by decide +kernel
theorem dX6_end_50 : decode cX6_end 50 = .ok (.ireturn, 1) := by decide +kernel
theorem dX6_send_0 : decode cX6_send 0 = .ok (.iload_n 1, 1) := by decide +kernel
theorem dX6_send_1 : decode cX6_send 1 = .ok (.aload_n 0, 1) := by decide +kernel
theorem dX6_send_2 : decode cX6_send 2 = .ok (.getfield 107, 3) := by decide +kernel
theorem dX6_send_5 : decode cX6_send 5 = .ok (.invokestatic 89, 3) := by decide +kernel
theorem dX6_send_8 : decode cX6_send 8 = .ok (.ifCond .ne 9, 3) := by decide +kernel
theorem dX6_send_11 : decode cX6_send 11 = .ok (.aload_n 0, 1) := by decide +kernel
theorem dX6_send_12 : decode cX6_send 12 = .ok (.iconst (-1), 1) := by decide +kernel
theorem dX6_send_13 : decode cX6_send 13 = .ok (.invokevirtual 93, 3) := by decide +kernel
theorem dX6_send_16 : decode cX6_send 16 = .ok (.ireturn, 1) := by decide +kernel
theorem dX6_send_17 : decode cX6_send 17 = .ok (.aload_n 0, 1) := by decide +kernel
theorem dX6_send_18 : decode cX6_send 18 = .ok (.getfield 50, 3) := by decide +kernel
theorem dX6_send_21 : decode cX6_send 21 = .ok (.iload_n 1, 1) := by decide +kernel
theorem dX6_send_22 : decode cX6_send 22 = .ok (.iaload, 1) := by decide +kernel
theorem dX6_send_23 : decode cX6_send 23 = .ok (.iconst (-1), 1) := by decide +kernel
theorem dX6_send_24 : decode cX6_send 24 = .ok (.if_icmp .ne 23, 3) := by decide +kernel
theorem dX6_send_27 : decode cX6_send 27 = .ok (.aload_n 0, 1) := by decide +kernel
theorem dX6_send_28 : decode cX6_send 28 = .ok (.getfield 41, 3) := by decide +kernel
theorem dX6_send_31 : decode cX6_send 31 = .ok (.iload_n 1, 1) := by decide +kernel
theorem dX6_send_32 : decode cX6_send 32 = .ok (.iaload, 1) := by decide +kernel
theorem dX6_send_33 : decode cX6_send 33 = .ok (.iconst 2, 1) := by decide +kernel
theorem dX6_send_34 : decode cX6_send 34 = .ok (.if_icmp .ge 13, 3) := by decide +kernel
theorem dX6_send_37 : decode cX6_send 37 = .ok (.aload_n 0, 1) := by decide +kernel
theorem dX6_send_38 : decode cX6_send 38 = .ok (.getfield 44, 3) := by decide +kernel
theorem dX6_send_41 : decode cX6_send 41 = .ok (.iload_n 1, 1) := by decide +kernel
theorem dX6_send_42 : decode cX6_send 42 = .ok (.iaload, 1) := by decide +kernel
theorem dX6_send_43 : decode cX6_send 43 = .ok (.iconst 3, 1) := by decide +kernel
theorem dX6_send_44 : decode cX6_send 44 = .ok (.if_icmp .lt 10, 3) := by decide +kernel
theorem dX6_send_47 : decode cX6_send 47 = .ok (.aload_n 0, 1) := by decide +kernel
theorem dX6_send_48 : decode cX6_send 48 = .ok (.bipush (-2), 2) := by decide +kernel
theorem dX6_send_50 : decode cX6_send 50 = .ok (.invokevirtual 93, 3) := by decide +kernel
theorem dX6_send_53 : decode cX6_send 53 = .ok (.ireturn, 1) := by decide +kernel
theorem dX6_send_54 : decode cX6_send 54 = .ok (.aload_n 0, 1) := by decide +kernel
theorem dX6_send_55 : decode cX6_send 55 = .ok (.iconst 1, 1) := by decide +kernel
theorem dX6_send_56 : decode cX6_send 56 = .ok (.invokevirtual 110, 3) := by decide +kernel
theorem dX6_send_59 : decode cX6_send 59 = .ok (.ifCond .eq 16, 3) := by decide +kernel
theorem dX6_send_62 : decode cX6_send 62 = .ok (.aload_n 0, 1) := by decide +kernel
theorem dX6_send_63 : decode cX6_send 63 = .ok (.getfield 104, 3) := by decide +kernel
theorem dX6_send_66 : decode cX6_send 66 = .ok (.bipush 10, 2) := by decide +kernel
theorem dX6_send_68 : decode cX6_send 68 = .ok (.iadd, 1) := by decide +kernel
theorem dX6_send_69 : decode cX6_send 69 = .ok (.sipush 2000, 3) := by decide +kernel
theorem dX6_send_72 : decode cX6_send 72 = .ok (.if_icmp .le 10, 3) := by decide +kernel
theorem dX6_send_75 : decode cX6_send 75 = .ok (.aload_n 0, 1) := by decide +kernel
theorem dX6_send_76 : decode cX6_send 76 = .ok (.bipush (-6), 2) := by decide +kernel
theorem dX6_send_78 : decode cX6_send 78 = .ok (.invokevirtual 93, 3) := by decide +kernel
theorem dX6_send_81 : decode cX6_send 81 = .ok (.ireturn, 1) := by decide +kernel
theorem dX6_send_82 : decode cX6_send 82 = .ok (.aload_n 0, 1) := by decide +kernel
theorem dX6_send_83 : decode cX6_send 83 = .ok (.getfield 53, 3) := by decide +kernel
theorem dX6_send_86 : decode cX6_send 86 = .ok (.iload_n 1, 1) := by decide +kernel
theorem dX6_send_87 : decode cX6_send 87 = .ok (.aload_n 0, 1) := by decide +kernel
theorem dX6_send_88 : decode cX6_send 88 = .ok (.getfield 104, 3) := by decide +kernel
theorem dX6_send_91 : decode cX6_send 91 = .ok (.bipush 10, 2) := by decide +kernel
theorem dX6_send_93 : decode cX6_send 93 = .ok (.iadd, 1) := by decide +kernel
theorem dX6_send_94 : decode cX6_send 94 = .ok (.iastore, 1) := by decide +kernel
theorem dX6_send_95 : decode cX6_send 95 = .ok (.aload_n 0, 1) := by decide +kernel
theorem dX6_send_96 : decode cX6_send 96 = .ok (.iload_n 1, 1) := by decide +kernel
theorem dX6_send_97 : decode cX6_send 97 = .ok (.bipush (-2), 2) := by decide +kernel
theorem dX6_send_99 : decode cX6_send 99 = .ok (.invokevirtual 124, 3) := by decide +kernel
theorem dX6_send_102 : decode cX6_send 102 = .ok (.aload_n 0, 1) := by decide +kernel
theorem dX6_send_103 : decode cX6_send 103 = .ok (.getfield 53, 3) := by decide +kernel
theorem dX6_send_106 : decode cX6_send 106 = .ok (.iload_n 1, 1) := by decide +kernel
theorem dX6_send_107 : decode cX6_send 107 = .ok (.iaload, 1) := by decide +kernel
theorem dX6_send_108 : decode cX6_send 108 = .ok (.ireturn, 1) := by decide +kernel
theorem dX6_mend_0 : decode cX6_mend 0 = .ok (.iload_n 1, 1) := by decide +kernel
theorem dX6_mend_1 : decode cX6_mend 1 = .ok (.aload_n 0, 1) := by decide +kernel
theorem dX6_mend_2 : decode cX6_mend 2 = .ok (.getfield 107, 3) := by decide +kernel
theorem dX6_mend_5 : decode cX6_mend 5 = .ok (.invokestatic 89, 3) := by decide +kernel
theorem dX6_mend_8 : decode cX6_mend 8 = .ok (.ifCond .ne 9, 3) := by decide +kernel
theorem dX6_mend_11 : decode cX6_mend 11 = .ok (.aload_n 0, 1) := by decide +kernel
theorem dX6_mend_12 : decode cX6_mend 12 = .ok (.iconst (-1), 1) := by decide +kernel
theorem dX6_mend_13 : decode cX6_mend 13 = .ok (.invokevirtual 93, 3) := by decide +kernel
theorem dX6_mend_16 : decode cX6_mend 16 = .ok (.ireturn, 1) := by decide +kernel
theorem dX6_mend_17 : decode cX6_mend 17 = .ok (.aload_n 0, 1) := by decide +kernel
theorem dX6_mend_18 : decode cX6_mend 18 = .ok (.getfield 50, 3) := by decide +kernel
theorem dX6_mend_21 : decode cX6_mend 21 = .ok (.iload_n 1, 1) := by decide +kernel
theorem dX6_mend_22 : decode cX6_mend 22 = .ok (.iaload, 1) := by decide +kernel
theorem dX6_mend_23 : decode cX6_mend 23 = .ok (.iconst (-1), 1) := by decide +kernel
theorem dX6_mend_24 : decode cX6_mend 24 = .ok (.if_icmp .eq 10, 3) := by decide +kernel
theorem dX6_mend_27 : decode cX6_mend 27 = .ok (.aload_n 0, 1) := by decide +kernel
theorem dX6_mend_28 : decode cX6_mend 28 = .ok (.bipush (-2), 2) := by decide +kernel
theorem dX6_mend_30 : decode cX6_mend 30 = .ok (.invokevirtual 93, 3) := by decide +kernel
theorem dX6_mend_33 : decode cX6_mend 33 = .ok (.ireturn, 1) := by decide +kernel
theorem dX6_mend_34 : decode cX6_mend 34 = .ok (.aload_n 0, 1) := by decide +kernel
theorem dX6_mend_35 : decode cX6_mend 35 = .ok (.getfield 44, 3) := by decide +kernel
theorem dX6_mend_38 : decode cX6_mend 38 = .ok (.iload_n 1, 1) := by decide +kernel
theorem dX6_mend_39 : decode cX6_mend 39 = .ok (.iaload, 1) := by decide +kernel
theorem dX6_mend_40 : decode cX6_mend 40 = .ok (.bipush 9, 2) := by decide +kernel
theorem dX6_mend_42 : decode cX6_mend 42 = .ok (.if_icmp .ne 10, 3) := by decide +kernel
theorem dX6_mend_45 : decode cX6_mend 45 = .ok (.aload_n 0, 1) := by decide +kernel
theorem dX6_mend_46 : decode cX6_mend 46 = .ok (.bipush (-6), 2) := by decide +kernel
theorem dX6_mend_48 : decode cX6_mend 48 = .ok (.invokevirtual 93, 3) := by decide +kernel
theorem dX6_mend_51 : decode cX6_mend 51 = .ok (.ireturn, 1) := by decide +kernel
theorem dX6_mend_52 : decode cX6_mend 52 = .ok (.aload_n 0, 1) := by decide +kernel
theorem dX6_mend_53 : decode cX6_mend 53 = .ok (.getfield 44, 3) := by decide +kernel
theorem dX6_mend_56 : decode cX6_mend 56 = .ok (.iload_n 1, 1) := by decide +kernel
theorem dX6_mend_57 : decode cX6_mend 57 = .ok (.dup2, 1) := by decide +kernel
theorem dX6_mend_58 : decode cX6_mend 58 = .ok (.iaload, 1) := by decide +kernel
theorem dX6_mend_59 : decode cX6_mend 59 = .ok (.iconst 1, 1) := by decide +kernel
theorem dX6_mend_60 : decode cX6_mend 60 = .ok (.iadd, 1) := by decide +kernel
theorem dX6_mend_61 : decode cX6_mend 61 = .ok (.iastore, 1) := by decide +kernel
theorem dX6_mend_62 : decode cX6_mend 62 = .ok (.aload_n 0, 1) := by decide +kernel
theorem dX6_mend_63 : decode cX6_mend 63 = .ok (.getfield 44, 3) := by decide +kernel
theorem dX6_mend_66 : decode cX6_mend 66 = .ok (.iload_n 1, 1) := by decide +kernel
theorem dX6_mend_67 : decode cX6_mend 67 = .ok (.iaload, 1) := by decide +kernel
theorem dX6_mend_68 : decode cX6_mend 68 = .ok (.ireturn, 1) := by decide +kernel
theorem dX6_cast_0 : decode cX6_cast 0 = .ok (.iload_n 1, 1) := by decide +kernel
theorem dX6_cast_1 : decode cX6_cast 1 = .ok (.aload_n 0, 1) := by decide +kernel
theorem dX6_cast_2 : decode cX6_cast 2 = .ok (.getfield 107, 3) := by decide +kernel
theorem dX6_cast_5 : decode cX6_cast 5 = .ok (.invokestatic 89, 3) := by decide +kernel
theorem dX6_cast_8 : decode cX6_cast 8 = .ok (.ifCond .ne 9, 3) := by decide +kernel
theorem dX6_cast_11 : decode cX6_cast 11 = .ok (.aload_n 0, 1) := by decide +kernel
theorem dX6_cast_12 : decode cX6_cast 12 = .ok (.iconst (-1), 1) := by decide +kernel
theorem dX6_cast_13 : decode cX6_cast 13 = .ok (.invokevirtual 93, 3) := by decide +kernel
theorem dX6_cast_16 : decode cX6_cast 16 = .ok (.ireturn, 1) := by decide +kernel
theorem dX6_cast_17 : decode cX6_cast 17 = .ok (.aload_n 0, 1) := by decide +kernel
theorem dX6_cast_18 : decode cX6_cast 18 = .ok (.getfield 50, 3) := by decide +kernel
theorem dX6_cast_21 : decode cX6_cast 21 = .ok (.iload_n 1, 1) := by decide +kernel
theorem dX6_cast_22 : decode cX6_cast 22 = .ok (.iaload, 1) := by decide +kernel
theorem dX6_cast_23 : decode cX6_cast 23 = .ok (.iconst (-1), 1) := by decide +kernel
theorem dX6_cast_24 : decode cX6_cast 24 = .ok (.if_icmp .eq 10, 3) := by decide +kernel
theorem dX6_cast_27 : decode cX6_cast 27 = .ok (.aload_n 0, 1) := by decide +kernel
theorem dX6_cast_28 : decode cX6_cast 28 = .ok (.bipush (-2), 2) := by decide +kernel
theorem dX6_cast_30 : decode cX6_cast 30 = .ok (.invokevirtual 93, 3) := by decide +kernel
theorem dX6_cast_33 : decode cX6_cast 33 = .ok (.ireturn, 1) := by decide +kernel
theorem dX6_cast_34 : decode cX6_cast 34 = .ok (.aload_n 0, 1) := by decide +kernel
theorem dX6_cast_35 : decode cX6_cast 35 = .ok (.iconst 1, 1) := by decide +kernel
theorem dX6_cast_36 : decode cX6_cast 36 = .ok (.invokevirtual 110, 3) := by decide +kernel
theorem dX6_cast_39 : decode cX6_cast 39 = .ok (.ifCond .ne 10, 3) := by decide +kernel
theorem dX6_cast_42 : decode cX6_cast 42 = .ok (.aload_n 0, 1) := by decide +kernel
theorem dX6_cast_43 : decode cX6_cast 43 = .ok (.bipush (-6), 2) := by decide +kernel
theorem dX6_cast_45 : decode cX6_cast 45 = .ok (.invokevirtual 93, 3) := by decide +kernel
theorem dX6_cast_48 : decode cX6_cast 48 = .ok (.ireturn, 1) := by decide +kernel
theorem dX6_cast_49 : decode cX6_cast 49 = .ok (.aload_n 0, 1) := by decide +kernel
theorem dX6_cast_50 : decode cX6_cast 50 = .ok (.iload_n 1, 1) := by decide +kernel
theorem dX6_cast_51 : decode cX6_cast 51 = .ok (.bipush (-3), 2) := by decide +kernel
theorem dX6_cast_53 : decode cX6_cast 53 = .ok (.invokevirtual 124, 3) := by decide +kernel
theorem dX6_cast_56 : decode cX6_cast 56 = .ok (.iconst 1, 1) := by decide +kernel
theorem dX6_cast_57 : decode cX6_cast 57 = .ok (.ireturn, 1) := by decide +kernel
theorem dX6_days_0 : decode cX6_days 0 = .ok (.iload_n 1, 1) := by decide +kernel
theorem dX6_days_1 : decode cX6_days 1 = .ok (.iconst 1, 1) := by decide +kernel
theorem dX6_days_2 : decode cX6_days 2 = .ok (.if_icmp .ge 10, 3) := by decide +kernel
theorem dX6_days_5 : decode cX6_days 5 = .ok (.aload_n 0, 1) := by decide +kernel
theorem dX6_days_6 : decode cX6_days 6 = .ok (.bipush (-4), 2) := by decide +kernel
theorem dX6_days_8 : decode cX6_days 8 = .ok (.invokevirtual 93, 3) := by decide +kernel
theorem dX6_days_11 : decode cX6_days 11 = .ok (.ireturn, 1) := by decide +kernel
theorem dX6_days_12 : decode cX6_days 12 = .ok (.iload_n 1, 1) := by decide +kernel
theorem dX6_days_13 : decode cX6_days 13 = .ok (.sipush 2000, 3) := by decide +kernel
theorem dX6_days_16 : decode cX6_days 16 = .ok (.aload_n 0, 1) := by decide +kernel
theorem dX6_days_17 : decode cX6_days 17 = .ok (.getfield 104, 3) := by decide +kernel
theorem dX6_days_20 : decode cX6_days 20 = .ok (.isub, 1) := by decide +kernel
theorem dX6_days_21 : decode cX6_days 21 = .ok (.if_icmp .le 10, 3) := by decide +kernel
theorem dX6_days_24 : decode cX6_days 24 = .ok (.aload_n 0, 1) := by decide +kernel
theorem dX6_days_25 : decode cX6_days 25 = .ok (.bipush (-6), 2) := by decide +kernel
theorem dX6_days_27 : decode cX6_days 27 = .ok (.invokevirtual 93, 3) := by decide +kernel
theorem dX6_days_30 : decode cX6_days 30 = .ok (.ireturn, 1) := by decide +kernel
theorem dX6_days_31 : decode cX6_days 31 = .ok (.iconst 0, 1) := by decide +kernel
theorem dX6_days_32 : decode cX6_days 32 = .ok (.istore_n 2, 1) := by decide +kernel
theorem dX6_days_33 : decode cX6_days 33 = .ok (.iload_n 2, 1) := by decide +kernel
theorem dX6_days_34 : decode cX6_days 34 = .ok (.iload_n 1, 1) := by decide +kernel
theorem dX6_days_35 : decode cX6_days 35 = .ok (.if_icmp .ge 83, 3) := by decide +kernel
theorem dX6_days_38 : decode cX6_days 38 = .ok (.aload_n 0, 1) := by decide +kernel
theorem dX6_days_39 : decode cX6_days 39 = .ok (.dup, 1) := by decide +kernel
theorem dX6_days_40 : decode cX6_days 40 = .ok (.getfield 104, 3) := by decide +kernel
theorem dX6_days_43 : decode cX6_days 43 = .ok (.iconst 1, 1) := by decide +kernel
theorem dX6_days_44 : decode cX6_days 44 = .ok (.iadd, 1) := by decide +kernel
theorem dX6_days_45 : decode cX6_days 45 = .ok (.putfield 104, 3) := by decide +kernel
theorem dX6_days_48 : decode cX6_days 48 = .ok (.iconst 0, 1) := by decide +kernel
theorem dX6_days_49 : decode cX6_days 49 = .ok (.istore_n 3, 1) := by decide +kernel
theorem dX6_days_50 : decode cX6_days 50 = .ok (.iload_n 3, 1) := by decide +kernel
theorem dX6_days_51 : decode cX6_days 51 = .ok (.aload_n 0, 1) := by decide +kernel
theorem dX6_days_52 : decode cX6_days 52 = .ok (.getfield 107, 3) := by decide +kernel
theorem dX6_days_55 : decode cX6_days 55 = .ok (.if_icmp .ge 57, 3) := by decide +kernel
theorem dX6_days_58 : decode cX6_days 58 = .ok (.aload_n 0, 1) := by decide +kernel
theorem dX6_days_59 : decode cX6_days 59 = .ok (.getfield 50, 3) := by decide +kernel
theorem dX6_days_62 : decode cX6_days 62 = .ok (.iload_n 3, 1) := by decide +kernel
theorem dX6_days_63 : decode cX6_days 63 = .ok (.iaload, 1) := by decide +kernel
theorem dX6_days_64 : decode cX6_days 64 = .ok (.bipush (-2), 2) := by decide +kernel
theorem dX6_days_66 : decode cX6_days 66 = .ok (.if_icmp .ne 40, 3) := by decide +kernel
theorem dX6_days_69 : decode cX6_days 69 = .ok (.aload_n 0, 1) := by decide +kernel
theorem dX6_days_70 : decode cX6_days 70 = .ok (.getfield 53, 3) := by decide +kernel
theorem dX6_days_73 : decode cX6_days 73 = .ok (.iload_n 3, 1) := by decide +kernel
theorem dX6_days_74 : decode cX6_days 74 = .ok (.iaload, 1) := by decide +kernel
theorem dX6_days_75 : decode cX6_days 75 = .ok (.aload_n 0, 1) := by decide +kernel
theorem dX6_days_76 : decode cX6_days 76 = .ok (.getfield 104, 3) := by decide +kernel
theorem dX6_days_79 : decode cX6_days 79 = .ok (.if_icmp .eq 6, 3) := by decide +kernel
theorem dX6_days_82 : decode cX6_days 82 = .ok (.goto 24, 3) := by decide +kernel
theorem dX6_days_85 : decode cX6_days 85 = .ok (.aload_n 0, 1) := by decide +kernel
theorem dX6_days_86 : decode cX6_days 86 = .ok (.getfield 41, 3) := by decide +kernel
theorem dX6_days_89 : decode cX6_days 89 = .ok (.iload_n 3, 1) := by decide +kernel
theorem dX6_days_90 : decode cX6_days 90 = .ok (.dup2, 1) := by decide +kernel
theorem dX6_days_91 : decode cX6_days 91 = .ok (.iaload, 1) := by decide +kernel
theorem dX6_days_92 : decode cX6_days 92 = .ok (.iconst 1, 1) := by decide +kernel
theorem dX6_days_93 : decode cX6_days 93 = .ok (.iadd, 1) := by decide +kernel
theorem dX6_days_94 : decode cX6_days 94 = .ok (.iastore, 1) := by decide +kernel
theorem dX6_days_95 : decode cX6_days 95 = .ok (.aload_n 0, 1) := by decide +kernel
theorem dX6_days_96 : decode cX6_days 96 = .ok (.iload_n 3, 1) := by decide +kernel
theorem dX6_days_97 : decode cX6_days 97 = .ok (.invokevirtual 114, 3) := by decide +kernel
theorem dX6_days_100 : decode cX6_days 100 = .ok (.aload_n 0, 1) := by decide +kernel
theorem dX6_days_101 : decode cX6_days 101 = .ok (.iload_n 3, 1) := by decide +kernel
theorem dX6_days_102 : decode cX6_days 102 = .ok (.iconst (-1), 1) := by decide +kernel
theorem dX6_days_103 : decode cX6_days 103 = .ok (.invokevirtual 124, 3) := by decide +kernel
theorem dX6_days_106 : decode cX6_days 106 = .ok (.iinc 3 1, 3) := by decide +kernel
theorem dX6_days_109 : decode cX6_days 109 = .ok (.goto (-59), 3) := by decide +kernel
theorem dX6_days_112 : decode cX6_days 112 = .ok (.iinc 2 1, 3) := by decide +kernel
theorem dX6_days_115 : decode cX6_days 115 = .ok (.goto (-82), 3) := by decide +kernel
theorem dX6_days_118 : decode cX6_days 118 = .ok (.aload_n 0, 1) := by decide +kernel
theorem dX6_days_119 : decode cX6_days 119 = .ok (.getfield 104, 3) := by decide +kernel
theorem dX6_days_122 : decode cX6_days 122 = .ok (.ireturn, 1) := by decide +kernel
theorem dX6_few_0 : decode cX6_few 0 = .ok (.iload_n 1, 1) := by decide +kernel
theorem dX6_few_1 : decode cX6_few 1 = .ok (.aload_n 0, 1) := by decide +kernel
theorem dX6_few_2 : decode cX6_few 2 = .ok (.getfield 86, 3) := by decide +kernel
theorem dX6_few_5 : decode cX6_few 5 = .ok (.invokestatic 89, 3) := by decide +kernel
theorem dX6_few_8 : decode cX6_few 8 = .ok (.ifCond .eq 11, 3) := by decide +kernel
theorem dX6_few_11 : decode cX6_few 11 = .ok (.iload_n 2, 1) := by decide +kernel
theorem dX6_few_12 : decode cX6_few 12 = .ok (.iconst 4, 1) := by decide +kernel
theorem dX6_few_13 : decode cX6_few 13 = .ok (.invokestatic 89, 3) := by decide +kernel
theorem dX6_few_16 : decode cX6_few 16 = .ok (.ifCond .ne 9, 3) := by decide +kernel
theorem dX6_few_19 : decode cX6_few 19 = .ok (.aload_n 0, 1) := by decide +kernel
theorem dX6_few_20 : decode cX6_few 20 = .ok (.iconst (-1), 1) := by decide +kernel
theorem dX6_few_21 : decode cX6_few 21 = .ok (.invokevirtual 93, 3) := by decide +kernel
theorem dX6_few_24 : decode cX6_few 24 = .ok (.ireturn, 1) := by decide +kernel
theorem dX6_few_25 : decode cX6_few 25 = .ok (.iload_n 3, 1) := by decide +kernel
theorem dX6_few_26 : decode cX6_few 26 = .ok (.ifCond .ge 10, 3) := by decide +kernel
theorem dX6_few_29 : decode cX6_few 29 = .ok (.aload_n 0, 1) := by decide +kernel
theorem dX6_few_30 : decode cX6_few 30 = .ok (.bipush (-4), 2) := by decide +kernel
theorem dX6_few_32 : decode cX6_few 32 = .ok (.invokevirtual 93, 3) := by decide +kernel
theorem dX6_few_35 : decode cX6_few 35 = .ok (.ireturn, 1) := by decide +kernel
theorem dX6_few_36 : decode cX6_few 36 = .ok (.iload_n 3, 1) := by decide +kernel
theorem dX6_few_37 : decode cX6_few 37 = .ok (.ldc 152, 2) := by decide +kernel
theorem dX6_few_39 : decode cX6_few 39 = .ok (.if_icmp .le 10, 3) := by decide +kernel
theorem dX6_few_42 : decode cX6_few 42 = .ok (.aload_n 0, 1) := by decide +kernel
theorem dX6_few_43 : decode cX6_few 43 = .ok (.bipush (-6), 2) := by decide +kernel
theorem dX6_few_45 : decode cX6_few 45 = .ok (.invokevirtual 93, 3) := by decide +kernel
theorem dX6_few_48 : decode cX6_few 48 = .ok (.ireturn, 1) := by decide +kernel
theorem dX6_few_49 : decode cX6_few 49 = .ok (.iconst 0, 1) := by decide +kernel
theorem dX6_few_50 : decode cX6_few 50 = .ok (.istore 4, 2) := by decide +kernel
theorem dX6_few_52 : decode cX6_few 52 = .ok (.iconst 0, 1) := by decide +kernel
theorem dX6_few_53 : decode cX6_few 53 = .ok (.istore 5, 2) := by decide +kernel
theorem dX6_few_55 : decode cX6_few 55 = .ok (.iload 5, 2) := by decide +kernel
theorem dX6_few_57 : decode cX6_few 57 = .ok (.aload_n 0, 1) := by decide +kernel
theorem dX6_few_58 : decode cX6_few 58 = .ok (.getfield 23, 3) := by decide +kernel
theorem dX6_few_61 : decode cX6_few 61 = .ok (.iload_n 1, 1) := by decide +kernel
theorem dX6_few_62 : decode cX6_few 62 = .ok (.iaload, 1) := by decide +kernel
theorem dX6_few_63 : decode cX6_few 63 = .ok (.if_icmp .ge 160, 3) := by decide +kernel
theorem dX6_few_66 : decode cX6_few 66 = .ok (.iload_n 1, 1) := by decide +kernel
theorem dX6_few_67 : decode cX6_few 67 = .ok (.iload 5, 2) := by decide +kernel
theorem dX6_few_69 : decode cX6_few 69 = .ok (.invokestatic 97, 3) := by decide +kernel
theorem dX6_few_72 : decode cX6_few 72 = .ok (.istore 6, 2) := by decide +kernel
theorem dX6_few_74 : decode cX6_few 74 = .ok (.aload_n 0, 1) := by decide +kernel
theorem dX6_few_75 : decode cX6_few 75 = .ok (.getfield 26, 3) := by decide +kernel
theorem dX6_few_78 : decode cX6_few 78 = .ok (.iload 6, 2) := by decide +kernel
theorem dX6_few_80 : decode cX6_few 80 = .ok (.iaload, 1) := by decide +kernel
theorem dX6_few_81 : decode cX6_few 81 = .ok (.iconst 4, 1) := by decide +kernel
theorem dX6_few_82 : decode cX6_few 82 = .ok (.if_icmp .ne 6, 3) := by decide +kernel
theorem dX6_few_85 : decode cX6_few 85 = .ok (.goto 132, 3) := by decide +kernel
theorem dX6_few_88 : decode cX6_few 88 = .ok (.aload_n 0, 1) := by decide +kernel
theorem dX6_few_89 : decode cX6_few 89 = .ok (.getfield 13, 3) := by decide +kernel
theorem dX6_few_92 : decode cX6_few 92 = .ok (.aload_n 0, 1) := by decide +kernel
theorem dX6_few_93 : decode cX6_few 93 = .ok (.getfield 26, 3) := by decide +kernel
theorem dX6_few_96 : decode cX6_few 96 = .ok (.iload 6, 2) := by decide +kernel
theorem dX6_few_98 : decode cX6_few 98 = .ok (.iaload, 1) := by decide +kernel
theorem dX6_few_99 : decode cX6_few 99 = .ok (.iaload, 1) := by decide +kernel
theorem dX6_few_100 : decode cX6_few 100 = .ok (.istore 7, 2) := by decide +kernel
theorem dX6_few_102 : decode cX6_few 102 = .ok (.aload_n 0, 1) := by decide +kernel
theorem dX6_few_103 : decode cX6_few 103 = .ok (.getfield 16, 3) := by decide +kernel
theorem dX6_few_106 : decode cX6_few 106 = .ok (.iload_n 2, 1) := by decide +kernel
