theorem dX6_init_0 : decode cX6_init 0 = .ok (.aload_n 0, 1) := by decide +kernel
theorem dX6_init_1 : decode cX6_init 1 = .ok (.invokespecial 1, 3) := by decide +kernel
theorem dX6_init_4 : decode cX6_init 4 = .ok (.aload_n 0, 1) := by decide +kernel
theorem dX6_init_5 : decode cX6_init 5 = .ok (.bipush 7, 2) := by decide +kernel
theorem dX6_init_7 : decode cX6_init 7 = .ok (.newarray .int, 2) := by decide +kernel
theorem dX6_init_9 : decode cX6_init 9 = .ok (.putfield 7, 3) := by decide +kernel
theorem dX6_init_12 : decode cX6_init 12 = .ok (.aload_n 0, 1) := by decide +kernel
theorem dX6_init_13 : decode cX6_init 13 = .ok (.iconst 5, 1) := by decide +kernel
theorem dX6_init_14 : decode cX6_init 14 = .ok (.newarray .int, 2) := by decide +kernel
theorem dX6_init_16 : decode cX6_init 16 = .ok (.dup, 1) := by decide +kernel
theorem dX6_init_17 : decode cX6_init 17 = .ok (.iconst 0, 1) := by decide +kernel
theorem dX6_init_18 : decode cX6_init 18 = .ok (.bipush 30, 2) := by decide +kernel
theorem dX6_init_20 : decode cX6_init 20 = .ok (.iastore, 1) := by decide +kernel
theorem dX6_init_21 : decode cX6_init 21 = .ok (.dup, 1) := by decide +kernel
theorem dX6_init_22 : decode cX6_init 22 = .ok (.iconst 1, 1) := by decide +kernel
theorem dX6_init_23 : decode cX6_init 23 = .ok (.bipush 20, 2) := by decide +kernel
theorem dX6_init_25 : decode cX6_init 25 = .ok (.iastore, 1) := by decide +kernel
theorem dX6_init_26 : decode cX6_init 26 = .ok (.dup, 1) := by decide +kernel
theorem dX6_init_27 : decode cX6_init 27 = .ok (.iconst 2, 1) := by decide +kernel
theorem dX6_init_28 : decode cX6_init 28 = .ok (.bipush 20, 2) := by decide +kernel
theorem dX6_init_30 : decode cX6_init 30 = .ok (.iastore, 1) := by decide +kernel
theorem dX6_init_31 : decode cX6_init 31 = .ok (.dup, 1) := by decide +kernel
theorem dX6_init_32 : decode cX6_init 32 = .ok (.iconst 3, 1) := by decide +kernel
theorem dX6_init_33 : decode cX6_init 33 = .ok (.bipush 16, 2) := by decide +kernel
theorem dX6_init_35 : decode cX6_init 35 = .ok (.iastore, 1) := by decide +kernel
theorem dX6_init_36 : decode cX6_init 36 = .ok (.dup, 1) := by decide +kernel
theorem dX6_init_37 : decode cX6_init 37 = .ok (.iconst 4, 1) := by decide +kernel
theorem dX6_init_38 : decode cX6_init 38 = .ok (.bipush 16, 2) := by decide +kernel
theorem dX6_init_40 : decode cX6_init 40 = .ok (.iastore, 1) := by decide +kernel
theorem dX6_init_41 : decode cX6_init 41 = .ok (.putfield 13, 3) := by decide +kernel
theorem dX6_init_44 : decode cX6_init 44 = .ok (.aload_n 0, 1) := by decide +kernel
theorem dX6_init_45 : decode cX6_init 45 = .ok (.iconst 4, 1) := by decide +kernel
theorem dX6_init_46 : decode cX6_init 46 = .ok (.newarray .int, 2) := by decide +kernel
theorem dX6_init_48 : decode cX6_init 48 = .ok (.dup, 1) := by decide +kernel
theorem dX6_init_49 : decode cX6_init 49 = .ok (.iconst 0, 1) := by decide +kernel
theorem dX6_init_50 : decode cX6_init 50 = .ok (.bipush 100, 2) := by decide +kernel
theorem dX6_init_52 : decode cX6_init 52 = .ok (.iastore, 1) := by decide +kernel
theorem dX6_init_53 : decode cX6_init 53 = .ok (.dup, 1) := by decide +kernel
theorem dX6_init_54 : decode cX6_init 54 = .ok (.iconst 1, 1) := by decide +kernel
theorem dX6_init_55 : decode cX6_init 55 = .ok (.bipush 100, 2) := by decide +kernel
theorem dX6_init_57 : decode cX6_init 57 = .ok (.iastore, 1) := by decide +kernel
theorem dX6_init_58 : decode cX6_init 58 = .ok (.dup, 1) := by decide +kernel
theorem dX6_init_59 : decode cX6_init 59 = .ok (.iconst 2, 1) := by decide +kernel
theorem dX6_init_60 : decode cX6_init 60 = .ok (.bipush 100, 2) := by decide +kernel
theorem dX6_init_62 : decode cX6_init 62 = .ok (.iastore, 1) := by decide +kernel
theorem dX6_init_63 : decode cX6_init 63 = .ok (.dup, 1) := by decide +kernel
theorem dX6_init_64 : decode cX6_init 64 = .ok (.iconst 3, 1) := by decide +kernel
theorem dX6_init_65 : decode cX6_init 65 = .ok (.bipush 100, 2) := by decide +kernel
theorem dX6_init_67 : decode cX6_init 67 = .ok (.iastore, 1) := by decide +kernel
theorem dX6_init_68 : decode cX6_init 68 = .ok (.putfield 16, 3) := by decide +kernel
theorem dX6_init_71 : decode cX6_init 71 = .ok (.aload_n 0, 1) := by decide +kernel
theorem dX6_init_72 : decode cX6_init 72 = .ok (.bipush 20, 2) := by decide +kernel
theorem dX6_init_74 : decode cX6_init 74 = .ok (.putfield 19, 3) := by decide +kernel
theorem dX6_init_77 : decode cX6_init 77 = .ok (.aload_n 0, 1) := by decide +kernel
theorem dX6_init_78 : decode cX6_init 78 = .ok (.iconst 5, 1) := by decide +kernel
theorem dX6_init_79 : decode cX6_init 79 = .ok (.newarray .int, 2) := by decide +kernel
theorem dX6_init_81 : decode cX6_init 81 = .ok (.putfield 23, 3) := by decide +kernel
theorem dX6_init_84 : decode cX6_init 84 = .ok (.aload_n 0, 1) := by decide +kernel
theorem dX6_init_85 : decode cX6_init 85 = .ok (.bipush 35, 2) := by decide +kernel
theorem dX6_init_87 : decode cX6_init 87 = .ok (.newarray .int, 2) := by decide +kernel
theorem dX6_init_89 : decode cX6_init 89 = .ok (.putfield 26, 3) := by decide +kernel
theorem dX6_init_92 : decode cX6_init 92 = .ok (.aload_n 0, 1) := by decide +kernel
theorem dX6_init_93 : decode cX6_init 93 = .ok (.bipush 35, 2) := by decide +kernel
theorem dX6_init_95 : decode cX6_init 95 = .ok (.newarray .int, 2) := by decide +kernel
theorem dX6_init_97 : decode cX6_init 97 = .ok (.putfield 29, 3) := by decide +kernel
theorem dX6_init_100 : decode cX6_init 100 = .ok (.aload_n 0, 1) := by decide +kernel
theorem dX6_init_101 : decode cX6_init 101 = .ok (.bipush 35, 2) := by decide +kernel
theorem dX6_init_103 : decode cX6_init 103 = .ok (.newarray .int, 2) := by decide +kernel
theorem dX6_init_105 : decode cX6_init 105 = .ok (.putfield 32, 3) := by decide +kernel
theorem dX6_init_108 : decode cX6_init 108 = .ok (.aload_n 0, 1) := by decide +kernel
theorem dX6_init_109 : decode cX6_init 109 = .ok (.bipush 40, 2) := by decide +kernel
theorem dX6_init_111 : decode cX6_init 111 = .ok (.newarray .int, 2) := by decide +kernel
theorem dX6_init_113 : decode cX6_init 113 = .ok (.putfield 35, 3) := by decide +kernel
theorem dX6_init_116 : decode cX6_init 116 = .ok (.aload_n 0, 1) := by decide +kernel
theorem dX6_init_117 : decode cX6_init 117 = .ok (.bipush 40, 2) := by decide +kernel
theorem dX6_init_119 : decode cX6_init 119 = .ok (.newarray .int, 2) := by decide +kernel
theorem dX6_init_121 : decode cX6_init 121 = .ok (.putfield 38, 3) := by decide +kernel
theorem dX6_init_124 : decode cX6_init 124 = .ok (.aload_n 0, 1) := by decide +kernel
theorem dX6_init_125 : decode cX6_init 125 = .ok (.bipush 40, 2) := by decide +kernel
theorem dX6_init_127 : decode cX6_init 127 = .ok (.newarray .int, 2) := by decide +kernel
theorem dX6_init_129 : decode cX6_init 129 = .ok (.putfield 41, 3) := by decide +kernel
theorem dX6_init_132 : decode cX6_init 132 = .ok (.aload_n 0, 1) := by decide +kernel
theorem dX6_init_133 : decode cX6_init 133 = .ok (.bipush 40, 2) := by decide +kernel
theorem dX6_init_135 : decode cX6_init 135 = .ok (.newarray .int, 2) := by decide +kernel
theorem dX6_init_137 : decode cX6_init 137 = .ok (.putfield 44, 3) := by decide +kernel
theorem dX6_init_140 : decode cX6_init 140 = .ok (.aload_n 0, 1) := by decide +kernel
theorem dX6_init_141 : decode cX6_init 141 = .ok (.bipush 40, 2) := by decide +kernel
theorem dX6_init_143 : decode cX6_init 143 = .ok (.newarray .int, 2) := by decide +kernel
theorem dX6_init_145 : decode cX6_init 145 = .ok (.putfield 47, 3) := by decide +kernel
theorem dX6_init_148 : decode cX6_init 148 = .ok (.aload_n 0, 1) := by decide +kernel
theorem dX6_init_149 : decode cX6_init 149 = .ok (.bipush 40, 2) := by decide +kernel
theorem dX6_init_151 : decode cX6_init 151 = .ok (.newarray .int, 2) := by decide +kernel
theorem dX6_init_153 : decode cX6_init 153 = .ok (.putfield 50, 3) := by decide +kernel
theorem dX6_init_156 : decode cX6_init 156 = .ok (.aload_n 0, 1) := by decide +kernel
theorem dX6_init_157 : decode cX6_init 157 = .ok (.bipush 40, 2) := by decide +kernel
theorem dX6_init_159 : decode cX6_init 159 = .ok (.newarray .int, 2) := by decide +kernel
theorem dX6_init_161 : decode cX6_init 161 = .ok (.putfield 53, 3) := by decide +kernel
theorem dX6_init_164 : decode cX6_init 164 = .ok (.aload_n 0, 1) := by decide +kernel
theorem dX6_init_165 : decode cX6_init 165 = .ok (.bipush 40, 2) := by decide +kernel
theorem dX6_init_167 : decode cX6_init 167 = .ok (.newarray .int, 2) := by decide +kernel
theorem dX6_init_169 : decode cX6_init 169 = .ok (.putfield 56, 3) := by decide +kernel
theorem dX6_init_172 : decode cX6_init 172 = .ok (.aload_n 0, 1) := by decide +kernel
theorem dX6_init_173 : decode cX6_init 173 = .ok (.sipush 520, 3) := by decide +kernel
theorem dX6_init_176 : decode cX6_init 176 = .ok (.newarray .int, 2) := by decide +kernel
theorem dX6_init_178 : decode cX6_init 178 = .ok (.putfield 59, 3) := by decide +kernel
theorem dX6_init_181 : decode cX6_init 181 = .ok (.aload_n 0, 1) := by decide +kernel
theorem dX6_init_182 : decode cX6_init 182 = .ok (.sipush 520, 3) := by decide +kernel
theorem dX6_init_185 : decode cX6_init 185 = .ok (.newarray .int, 2) := by decide +kernel
theorem dX6_init_187 : decode cX6_init 187 = .ok (.putfield 62, 3) := by decide +kernel
theorem dX6_init_190 : decode cX6_init 190 = .ok (.aload_n 0, 1) := by decide +kernel
theorem dX6_init_191 : decode cX6_init 191 = .ok (.sipush 600, 3) := by decide +kernel
theorem dX6_init_194 : decode cX6_init 194 = .ok (.newarray .int, 2) := by decide +kernel
theorem dX6_init_196 : decode cX6_init 196 = .ok (.putfield 65, 3) := by decide +kernel
theorem dX6_init_199 : decode cX6_init 199 = .ok (.aload_n 0, 1) := by decide +kernel
theorem dX6_init_200 : decode cX6_init 200 = .ok (.sipush 600, 3) := by decide +kernel
theorem dX6_init_203 : decode cX6_init 203 = .ok (.newarray .int, 2) := by decide +kernel
theorem dX6_init_205 : decode cX6_init 205 = .ok (.putfield 68, 3) := by decide +kernel
theorem dX6_init_208 : decode cX6_init 208 = .ok (.aload_n 0, 1) := by decide +kernel
theorem dX6_init_209 : decode cX6_init 209 = .ok (.sipush 600, 3) := by decide +kernel
theorem dX6_init_212 : decode cX6_init 212 = .ok (.newarray .int, 2) := by decide +kernel
theorem dX6_init_214 : decode cX6_init 214 = .ok (.putfield 71, 3) := by decide +kernel
theorem dX6_init_217 : decode cX6_init 217 = .ok (.aload_n 0, 1) := by decide +kernel
theorem dX6_init_218 : decode cX6_init 218 = .ok (.bipush 7, 2) := by decide +kernel
theorem dX6_init_220 : decode cX6_init 220 = .ok (.newarray .int, 2) := by decide +kernel
theorem dX6_init_222 : decode cX6_init 222 = .ok (.putfield 74, 3) := by decide +kernel
theorem dX6_init_225 : decode cX6_init 225 = .ok (.aload_n 0, 1) := by decide +kernel
theorem dX6_init_226 : decode cX6_init 226 = .ok (.bipush 7, 2) := by decide +kernel
theorem dX6_init_228 : decode cX6_init 228 = .ok (.newarray .int, 2) := by decide +kernel
theorem dX6_init_230 : decode cX6_init 230 = .ok (.putfield 77, 3) := by decide +kernel
theorem dX6_init_233 : decode cX6_init 233 = .ok (.aload_n 0, 1) := by decide +kernel
theorem dX6_init_234 : decode cX6_init 234 = .ok (.bipush 7, 2) := by decide +kernel
theorem dX6_init_236 : decode cX6_init 236 = .ok (.newarray .int, 2) := by decide +kernel
theorem dX6_init_238 : decode cX6_init 238 = .ok (.putfield 80, 3) := by decide +kernel
theorem dX6_init_241 : decode cX6_init 241 = .ok (.aload_n 0, 1) := by decide +kernel
theorem dX6_init_242 : decode cX6_init 242 = .ok (.bipush 35, 2) := by decide +kernel
theorem dX6_init_244 : decode cX6_init 244 = .ok (.newarray .int, 2) := by decide +kernel
theorem dX6_init_246 : decode cX6_init 246 = .ok (.putfield 83, 3) := by decide +kernel
theorem dX6_init_249 : decode cX6_init 249 = .ok (.return_, 1) := by decide +kernel
theorem dX6_refuse_0 : decode cX6_refuse 0 = .ok (.aload_n 0, 1) := by decide +kernel
theorem dX6_refuse_1 : decode cX6_refuse 1 = .ok (.getfield 7, 3) := by decide +kernel
theorem dX6_refuse_4 : decode cX6_refuse 4 = .ok (.iload_n 1, 1) := by decide +kernel
theorem dX6_refuse_5 : decode cX6_refuse 5 = .ok (.ineg, 1) := by decide +kernel
theorem dX6_refuse_6 : decode cX6_refuse 6 = .ok (.dup2, 1) := by decide +kernel
theorem dX6_refuse_7 : decode cX6_refuse 7 = .ok (.iaload, 1) := by decide +kernel
theorem dX6_refuse_8 : decode cX6_refuse 8 = .ok (.iconst 1, 1) := by decide +kernel
theorem dX6_refuse_9 : decode cX6_refuse 9 = .ok (.iadd, 1) := by decide +kernel
theorem dX6_refuse_10 : decode cX6_refuse 10 = .ok (.iastore, 1) := by decide +kernel
theorem dX6_refuse_11 : decode cX6_refuse 11 = .ok (.iload_n 1, 1) := by decide +kernel
theorem dX6_refuse_12 : decode cX6_refuse 12 = .ok (.ireturn, 1) := by decide +kernel
theorem dX6_isIn_0 : decode cX6_isIn 0 = .ok (.iload_n 0, 1) := by decide +kernel
theorem dX6_isIn_1 : decode cX6_isIn 1 = .ok (.ifCond .lt 12, 3) := by decide +kernel
theorem dX6_isIn_4 : decode cX6_isIn 4 = .ok (.iload_n 0, 1) := by decide +kernel
theorem dX6_isIn_5 : decode cX6_isIn 5 = .ok (.iload_n 1, 1) := by decide +kernel
theorem dX6_isIn_6 : decode cX6_isIn 6 = .ok (.if_icmp .ge 7, 3) := by decide +kernel
theorem dX6_isIn_9 : decode cX6_isIn 9 = .ok (.iconst 1, 1) := by decide +kernel
theorem dX6_isIn_10 : decode cX6_isIn 10 = .ok (.goto 4, 3) := by decide +kernel
theorem dX6_isIn_13 : decode cX6_isIn 13 = .ok (.iconst 0, 1) := by decide +kernel
theorem dX6_isIn_14 : decode cX6_isIn 14 = .ok (.ireturn, 1) := by decide +kernel
theorem dX6_isPlace_0 : decode cX6_isPlace 0 = .ok (.iload_n 1, 1) := by decide +kernel
theorem dX6_isPlace_1 : decode cX6_isPlace 1 = .ok (.aload_n 0, 1) := by decide +kernel
theorem dX6_isPlace_2 : decode cX6_isPlace 2 = .ok (.getfield 86, 3) := by decide +kernel
theorem dX6_isPlace_5 : decode cX6_isPlace 5 = .ok (.invokestatic 89, 3) := by decide +kernel
theorem dX6_isPlace_8 : decode cX6_isPlace 8 = .ok (.ifCond .eq 20, 3) := by decide +kernel
theorem dX6_isPlace_11 : decode cX6_isPlace 11 = .ok (.iload_n 2, 1) := by decide +kernel
theorem dX6_isPlace_12 : decode cX6_isPlace 12 = .ok (.aload_n 0, 1) := by decide +kernel
theorem dX6_isPlace_13 : decode cX6_isPlace 13 = .ok (.getfield 23, 3) := by decide +kernel
theorem dX6_isPlace_16 : decode cX6_isPlace 16 = .ok (.iload_n 1, 1) := by decide +kernel
theorem dX6_isPlace_17 : decode cX6_isPlace 17 = .ok (.iaload, 1) := by decide +kernel
theorem dX6_isPlace_18 : decode cX6_isPlace 18 = .ok (.invokestatic 89, 3) := by decide +kernel
theorem dX6_isPlace_21 : decode cX6_isPlace 21 = .ok (.ifCond .eq 7, 3) := by decide +kernel
theorem dX6_isPlace_24 : decode cX6_isPlace 24 = .ok (.iconst 1, 1) := by decide +kernel
theorem dX6_isPlace_25 : decode cX6_isPlace 25 = .ok (.goto 4, 3) := by decide +kernel
theorem dX6_isPlace_28 : decode cX6_isPlace 28 = .ok (.iconst 0, 1) := by decide +kernel
theorem dX6_isPlace_29 : decode cX6_isPlace 29 = .ok (.ireturn, 1) := by decide +kernel
theorem dX6_spot_0 : decode cX6_spot 0 = .ok (.bipush 7, 2) := by decide +kernel
theorem dX6_spot_2 : decode cX6_spot 2 = .ok (.iload_n 0, 1) := by decide +kernel
theorem dX6_spot_3 : decode cX6_spot 3 = .ok (.imul, 1) := by decide +kernel
theorem dX6_spot_4 : decode cX6_spot 4 = .ok (.iload_n 1, 1) := by decide +kernel
theorem dX6_spot_5 : decode cX6_spot 5 = .ok (.iadd, 1) := by decide +kernel
theorem dX6_spot_6 : decode cX6_spot 6 = .ok (.ireturn, 1) := by decide +kernel
theorem dX6_wagon_0 : decode cX6_wagon 0 = .ok (.aload_n 0, 1) := by decide +kernel
theorem dX6_wagon_1 : decode cX6_wagon 1 = .ok (.getfield 86, 3) := by decide +kernel
theorem dX6_wagon_4 : decode cX6_wagon 4 = .ok (.iconst 5, 1) := by decide +kernel
theorem dX6_wagon_5 : decode cX6_wagon 5 = .ok (.if_icmp .ne 10, 3) := by decide +kernel
theorem dX6_wagon_8 : decode cX6_wagon 8 = .ok (.aload_n 0, 1) := by decide +kernel
theorem dX6_wagon_9 : decode cX6_wagon 9 = .ok (.bipush (-6), 2) := by decide +kernel
theorem dX6_wagon_11 : decode cX6_wagon 11 = .ok (.invokevirtual 93, 3) := by decide +kernel
theorem dX6_wagon_14 : decode cX6_wagon 14 = .ok (.ireturn, 1) := by decide +kernel
theorem dX6_wagon_15 : decode cX6_wagon 15 = .ok (.aload_n 0, 1) := by decide +kernel
theorem dX6_wagon_16 : decode cX6_wagon 16 = .ok (.dup, 1) := by decide +kernel
theorem dX6_wagon_17 : decode cX6_wagon 17 = .ok (.getfield 86, 3) := by decide +kernel
theorem dX6_wagon_20 : decode cX6_wagon 20 = .ok (.iconst 1, 1) := by decide +kernel
theorem dX6_wagon_21 : decode cX6_wagon 21 = .ok (.iadd, 1) := by decide +kernel
theorem dX6_wagon_22 : decode cX6_wagon 22 = .ok (.putfield 86, 3) := by decide +kernel
theorem dX6_wagon_25 : decode cX6_wagon 25 = .ok (.aload_n 0, 1) := by decide +kernel
theorem dX6_wagon_26 : decode cX6_wagon 26 = .ok (.getfield 86, 3) := by decide +kernel
theorem dX6_wagon_29 : decode cX6_wagon 29 = .ok (.iconst 1, 1) := by decide +kernel
theorem dX6_wagon_30 : decode cX6_wagon 30 = .ok (.isub, 1) := by decide +kernel
theorem dX6_wagon_31 : decode cX6_wagon 31 = .ok (.ireturn, 1) := by decide +kernel
theorem dX6_place_0 : decode cX6_place 0 = .ok (.iload_n 1, 1) := by decide +kernel
theorem dX6_place_1 : decode cX6_place 1 = .ok (.aload_n 0, 1) := by decide +kernel
theorem dX6_place_2 : decode cX6_place 2 = .ok (.getfield 86, 3) := by decide +kernel
theorem dX6_place_5 : decode cX6_place 5 = .ok (.invokestatic 89, 3) := by decide +kernel
theorem dX6_place_8 : decode cX6_place 8 = .ok (.ifCond .eq 11, 3) := by decide +kernel
theorem dX6_place_11 : decode cX6_place 11 = .ok (.iload_n 2, 1) := by decide +kernel
theorem dX6_place_12 : decode cX6_place 12 = .ok (.iconst 5, 1) := by decide +kernel
theorem dX6_place_13 : decode cX6_place 13 = .ok (.invokestatic 89, 3) := by decide +kernel
theorem dX6_place_16 : decode cX6_place 16 = .ok (.ifCond .ne 9, 3) := by decide +kernel
theorem dX6_place_19 : decode cX6_place 19 = .ok (.aload_n 0, 1) := by decide +kernel
theorem dX6_place_20 : decode cX6_place 20 = .ok (.iconst (-1), 1) := by decide +kernel
theorem dX6_place_21 : decode cX6_place 21 = .ok (.invokevirtual 93, 3) := by decide +kernel
theorem dX6_place_24 : decode cX6_place 24 = .ok (.ireturn, 1) := by decide +kernel
theorem dX6_place_25 : decode cX6_place 25 = .ok (.aload_n 0, 1) := by decide +kernel
theorem dX6_place_26 : decode cX6_place 26 = .ok (.getfield 23, 3) := by decide +kernel
theorem dX6_place_29 : decode cX6_place 29 = .ok (.iload_n 1, 1) := by decide +kernel
theorem dX6_place_30 : decode cX6_place 30 = .ok (.iaload, 1) := by decide +kernel
theorem dX6_place_31 : decode cX6_place 31 = .ok (.bipush 7, 2) := by decide +kernel
theorem dX6_place_33 : decode cX6_place 33 = .ok (.if_icmp .ne 10, 3) := by decide +kernel
theorem dX6_place_36 : decode cX6_place 36 = .ok (.aload_n 0, 1) := by decide +kernel
theorem dX6_place_37 : decode cX6_place 37 = .ok (.bipush (-6), 2) := by decide +kernel
theorem dX6_place_39 : decode cX6_place 39 = .ok (.invokevirtual 93, 3) := by decide +kernel
theorem dX6_place_42 : decode cX6_place 42 = .ok (.ireturn, 1) := by decide +kernel
theorem dX6_place_43 : decode cX6_place 43 = .ok (.aload_n 0, 1) := by decide +kernel
theorem dX6_place_44 : decode cX6_place 44 = .ok (.getfield 23, 3) := by decide +kernel
theorem dX6_place_47 : decode cX6_place 47 = .ok (.iload_n 1, 1) := by decide +kernel
theorem dX6_place_48 : decode cX6_place 48 = .ok (.iaload, 1) := by decide +kernel
theorem dX6_place_49 : decode cX6_place 49 = .ok (.istore_n 3, 1) := by decide +kernel
theorem dX6_place_50 : decode cX6_place 50 = .ok (.iload_n 1, 1) := by decide +kernel
theorem dX6_place_51 : decode cX6_place 51 = .ok (.iload_n 3, 1) := by decide +kernel
theorem dX6_place_52 : decode cX6_place 52 = .ok (.invokestatic 97, 3) := by decide +kernel
theorem dX6_place_55 : decode cX6_place 55 = .ok (.istore 4, 2) := by decide +kernel
theorem dX6_place_57 : decode cX6_place 57 = .ok (.aload_n 0, 1) := by decide +kernel
theorem dX6_place_58 : decode cX6_place 58 = .ok (.getfield 26, 3) := by decide +kernel
theorem dX6_place_61 : decode cX6_place 61 = .ok (.iload 4, 2) := by decide +kernel
theorem dX6_place_63 : decode cX6_place 63 = .ok (.iload_n 2, 1) := by decide +kernel
theorem dX6_place_64 : decode cX6_place 64 = .ok (.iastore, 1) := by decide +kernel
theorem dX6_place_65 : decode cX6_place 65 = .ok (.aload_n 0, 1) := by decide +kernel
theorem dX6_place_66 : decode cX6_place 66 = .ok (.getfield 29, 3) := by decide +kernel
theorem dX6_place_69 : decode cX6_place 69 = .ok (.iload 4, 2) := by decide +kernel
theorem dX6_place_71 : decode cX6_place 71 = .ok (.iconst (-1), 1) := by decide +kernel
theorem dX6_place_72 : decode cX6_place 72 = .ok (.iastore, 1) := by decide +kernel
theorem dX6_place_73 : decode cX6_place 73 = .ok (.aload_n 0, 1) := by decide +kernel
theorem dX6_place_74 : decode cX6_place 74 = .ok (.getfield 32, 3) := by decide +kernel
theorem dX6_place_77 : decode cX6_place 77 = .ok (.iload 4, 2) := by decide +kernel
theorem dX6_place_79 : decode cX6_place 79 = .ok (.iconst (-1), 1) := by decide +kernel
theorem dX6_place_80 : decode cX6_place 80 = .ok (.iastore, 1) := by decide +kernel
theorem dX6_place_81 : decode cX6_place 81 = .ok (.iload_n 3, 1) := by decide +kernel
theorem dX6_place_82 : decode cX6_place 82 = .ok (.iconst 1, 1) := by decide +kernel
theorem dX6_place_83 : decode cX6_place 83 = .ok (.isub, 1) := by decide +kernel
theorem dX6_place_84 : decode cX6_place 84 = .ok (.istore 5, 2) := by decide +kernel
theorem dX6_place_86 : decode cX6_place 86 = .ok (.iload 5, 2) := by decide +kernel
theorem dX6_place_88 : decode cX6_place 88 = .ok (.ifCond .lt 77, 3) := by decide +kernel
theorem dX6_place_91 : decode cX6_place 91 = .ok (.iload_n 2, 1) := by decide +kernel
theorem dX6_place_92 : decode cX6_place 92 = .ok (.iconst 2, 1) := by decide +kernel
theorem dX6_place_93 : decode cX6_place 93 = .ok (.if_icmp .ne 72, 3) := by decide +kernel
theorem dX6_place_96 : decode cX6_place 96 = .ok (.aload_n 0, 1) := by decide +kernel
theorem dX6_place_97 : decode cX6_place 97 = .ok (.getfield 32, 3) := by decide +kernel
theorem dX6_place_100 : decode cX6_place 100 = .ok (.iload 4, 2) := by decide +kernel
theorem dX6_place_102 : decode cX6_place 102 = .ok (.iaload, 1) := by decide +kernel
theorem dX6_place_103 : decode cX6_place 103 = .ok (.ifCond .ge 62, 3) := by decide +kernel
theorem dX6_place_106 : decode cX6_place 106 = .ok (.aload_n 0, 1) := by decide +kernel
theorem dX6_place_107 : decode cX6_place 107 = .ok (.getfield 26, 3) := by decide +kernel
theorem dX6_place_110 : decode cX6_place 110 = .ok (.iload_n 1, 1) := by decide +kernel
theorem dX6_place_111 : decode cX6_place 111 = .ok (.iload 5, 2) := by decide +kernel
theorem dX6_place_113 : decode cX6_place 113 = .ok (.invokestatic 97, 3) := by decide +kernel
theorem dX6_place_116 : decode cX6_place 116 = .ok (.iaload, 1) := by decide +kernel
theorem dX6_place_117 : decode cX6_place 117 = .ok (.iconst 2, 1) := by decide +kernel
theorem dX6_place_118 : decode cX6_place 118 = .ok (.if_icmp .ne 41, 3) := by decide +kernel
theorem dX6_place_121 : decode cX6_place 121 = .ok (.aload_n 0, 1) := by decide +kernel
theorem dX6_place_122 : decode cX6_place 122 = .ok (.getfield 32, 3) := by decide +kernel
theorem dX6_place_125 : decode cX6_place 125 = .ok (.iload_n 1, 1) := by decide +kernel
theorem dX6_place_126 : decode cX6_place 126 = .ok (.iload 5, 2) := by decide +kernel
theorem dX6_place_128 : decode cX6_place 128 = .ok (.invokestatic 97, 3) := by decide +kernel
theorem dX6_place_131 : decode cX6_place 131 = .ok (.iaload, 1) := by decide +kernel
theorem dX6_place_132 : decode cX6_place 132 = .ok (.ifCond .lt 6, 3) := by decide +kernel
theorem dX6_place_135 : decode cX6_place 135 = .ok (.goto 24, 3) := by decide +kernel
theorem dX6_place_138 : decode cX6_place 138 = .ok (.aload_n 0, 1) := by decide +kernel
theorem dX6_place_139 : decode cX6_place 139 = .ok (.getfield 32, 3) := by decide +kernel
theorem dX6_place_142 : decode cX6_place 142 = .ok (.iload 4, 2) := by decide +kernel
theorem dX6_place_144 : decode cX6_place 144 = .ok (.iload 5, 2) := by decide +kernel
theorem dX6_place_146 : decode cX6_place 146 = .ok (.iastore, 1) := by decide +kernel
theorem dX6_place_147 : decode cX6_place 147 = .ok (.aload_n 0, 1) := by decide +kernel
theorem dX6_place_148 : decode cX6_place 148 = .ok (.getfield 32, 3) := by decide +kernel
theorem dX6_place_151 : decode cX6_place 151 = .ok (.iload_n 1, 1) := by decide +kernel
theorem dX6_place_152 : decode cX6_place 152 = .ok (.iload 5, 2) := by decide +kernel
theorem dX6_place_154 : decode cX6_place 154 = .ok (.invokestatic 97, 3) := by decide +kernel
theorem dX6_place_157 : decode cX6_place 157 = .ok (.iload_n 3, 1) := by decide +kernel
theorem dX6_place_158 : decode cX6_place 158 = .ok (.iastore, 1) := by decide +kernel
theorem dX6_place_159 : decode cX6_place 159 = .ok (.iinc 5 (-1), 3) := by decide +kernel
theorem dX6_place_162 : decode cX6_place 162 = .ok (.goto (-76), 3) := by decide +kernel
theorem dX6_place_165 : decode cX6_place 165 = .ok (.aload_n 0, 1) := by decide +kernel
theorem dX6_place_166 : decode cX6_place 166 = .ok (.getfield 23, 3) := by decide +kernel
theorem dX6_place_169 : decode cX6_place 169 = .ok (.iload_n 1, 1) := by decide +kernel
theorem dX6_place_170 : decode cX6_place 170 = .ok (.dup2, 1) := by decide +kernel
theorem dX6_place_171 : decode cX6_place 171 = .ok (.iaload, 1) := by decide +kernel
theorem dX6_place_172 : decode cX6_place 172 = .ok (.iconst 1, 1) := by decide +kernel
theorem dX6_place_173 : decode cX6_place 173 = .ok (.iadd, 1) := by decide +kernel
theorem dX6_place_174 : decode cX6_place 174 = .ok (.iastore, 1) := by decide +kernel
theorem dX6_place_175 : decode cX6_place 175 = .ok (.iload_n 3, 1) := by decide +kernel
theorem dX6_place_176 : decode cX6_place 176 = .ok (.ireturn, 1) := by decide +kernel
theorem dX6_least_0 : decode cX6_least 0 = .ok (.iload_n 1, 1) := by decide +kernel
theorem dX6_least_1 : decode cX6_least 1 = .ok (.iconst 5, 1) := by decide +kernel
theorem dX6_least_2 : decode cX6_least 2 = .ok (.invokestatic 89, 3) := by decide +kernel
theorem dX6_least_5 : decode cX6_least 5 = .ok (.ifCond .ne 9, 3) := by decide +kernel
theorem dX6_least_8 : decode cX6_least 8 = .ok (.aload_n 0, 1) := by decide +kernel
theorem dX6_least_9 : decode cX6_least 9 = .ok (.iconst (-1), 1) := by decide +kernel
theorem dX6_least_10 : decode cX6_least 10 = .ok (.invokevirtual 93, 3) := by decide +kernel
theorem dX6_least_13 : decode cX6_least 13 = .ok (.ireturn, 1) := by decide +kernel
theorem dX6_least_14 : decode cX6_least 14 = .ok (.iload_n 2, 1) := by decide +kernel
theorem dX6_least_15 : decode cX6_least 15 = .ok (.ifCond .ge 10, 3) := by decide +kernel
theorem dX6_least_18 : decode cX6_least 18 = .ok (.aload_n 0, 1) := by decide +kernel
theorem dX6_least_19 : decode cX6_least 19 = .ok (.bipush (-4), 2) := by decide +kernel
theorem dX6_least_21 : decode cX6_least 21 = .ok (.invokevirtual 93, 3) := by decide +kernel
theorem dX6_least_24 : decode cX6_least 24 = .ok (.ireturn, 1) := by decide +kernel
theorem dX6_least_25 : decode cX6_least 25 = .ok (.iload_n 2, 1) := by decide +kernel
theorem dX6_least_26 : decode cX6_least 26 = .ok (.bipush 100, 2) := by decide +kernel
theorem dX6_least_28 : decode cX6_least 28 = .ok (.if_icmp .le 10, 3) := by decide +kernel
theorem dX6_least_31 : decode cX6_least 31 = .ok (.aload_n 0, 1) := by decide +kernel
theorem dX6_least_32 : decode cX6_least 32 = .ok (.bipush (-6), 2) := by decide +kernel
theorem dX6_least_34 : decode cX6_least 34 = .ok (.invokevirtual 93, 3) := by decide +kernel
theorem dX6_least_37 : decode cX6_least 37 = .ok (.ireturn, 1) := by decide +kernel
theorem dX6_least_38 : decode cX6_least 38 = .ok (.aload_n 0, 1) := by decide +kernel
theorem dX6_least_39 : decode cX6_least 39 = .ok (.getfield 13, 3) := by decide +kernel
theorem dX6_least_42 : decode cX6_least 42 = .ok (.iload_n 1, 1) := by decide +kernel
theorem dX6_least_43 : decode cX6_least 43 = .ok (.iaload, 1) := by decide +kernel
theorem dX6_least_44 : decode cX6_least 44 = .ok (.istore_n 3, 1) := by decide +kernel
theorem dX6_least_45 : decode cX6_least 45 = .ok (.aload_n 0, 1) := by decide +kernel
theorem dX6_least_46 : decode cX6_least 46 = .ok (.getfield 13, 3) := by decide +kernel
theorem dX6_least_49 : decode cX6_least 49 = .ok (.iload_n 1, 1) := by decide +kernel
theorem dX6_least_50 : decode cX6_least 50 = .ok (.iload_n 2, 1) := by decide +kernel
theorem dX6_least_51 : decode cX6_least 51 = .ok (.iastore, 1) := by decide +kernel
theorem dX6_least_52 : decode cX6_least 52 = .ok (.iload_n 3, 1) := by decide +kernel
theorem dX6_least_53 : decode cX6_least 53 = .ok (.ireturn, 1) := by decide +kernel
theorem dX6_apart_0 : decode cX6_apart 0 = .ok (.iload_n 1, 1) := by decide +kernel
theorem dX6_apart_1 : decode cX6_apart 1 = .ok (.ifCond .ge 10, 3) := by decide +kernel
theorem dX6_apart_4 : decode cX6_apart 4 = .ok (.aload_n 0, 1) := by decide +kernel
theorem dX6_apart_5 : decode cX6_apart 5 = .ok (.bipush (-4), 2) := by decide +kernel
theorem dX6_apart_7 : decode cX6_apart 7 = .ok (.invokevirtual 93, 3) := by decide +kernel
theorem dX6_apart_10 : decode cX6_apart 10 = .ok (.ireturn, 1) := by decide +kernel
theorem dX6_apart_11 : decode cX6_apart 11 = .ok (.iload_n 1, 1) := by decide +kernel
theorem dX6_apart_12 : decode cX6_apart 12 = .ok (.bipush 100, 2) := by decide +kernel
theorem dX6_apart_14 : decode cX6_apart 14 = .ok (.if_icmp .le 10, 3) := by decide +kernel
theorem dX6_apart_17 : decode cX6_apart 17 = .ok (.aload_n 0, 1) := by decide +kernel
theorem dX6_apart_18 : decode cX6_apart 18 = .ok (.bipush (-6), 2) := by decide +kernel
theorem dX6_apart_20 : decode cX6_apart 20 = .ok (.invokevirtual 93, 3) := by decide +kernel
theorem dX6_apart_23 : decode cX6_apart 23 = .ok (.ireturn, 1) := by decide +kernel
theorem dX6_apart_24 : decode cX6_apart 24 = .ok (.aload_n 0, 1) := by decide +kernel
theorem dX6_apart_25 : decode cX6_apart 25 = .ok (.getfield 19, 3) := by decide +kernel
theorem dX6_apart_28 : decode cX6_apart 28 = .ok (.istore_n 2, 1) := by decide +kernel
theorem dX6_apart_29 : decode cX6_apart 29 = .ok (.aload_n 0, 1) := by decide +kernel
theorem dX6_apart_30 : decode cX6_apart 30 = .ok (.iload_n 1, 1) := by decide +kernel
theorem dX6_apart_31 : decode cX6_apart 31 = .ok (.putfield 19, 3) := by decide +kernel
theorem dX6_apart_34 : decode cX6_apart 34 = .ok (.iload_n 2, 1) := by decide +kernel
theorem dX6_apart_35 : decode cX6_apart 35 = .ok (.ireturn, 1) := by decide +kernel
theorem dX6_maker_0 : decode cX6_maker 0 = .ok (.iload_n 1, 1) := by decide +kernel
theorem dX6_maker_1 : decode cX6_maker 1 = .ok (.iconst 4, 1) := by decide +kernel
theorem dX6_maker_2 : decode cX6_maker 2 = .ok (.invokestatic 89, 3) := by decide +kernel
theorem dX6_maker_5 : decode cX6_maker 5 = .ok (.ifCond .ne 9, 3) := by decide +kernel
theorem dX6_maker_8 : decode cX6_maker 8 = .ok (.aload_n 0, 1) := by decide +kernel
theorem dX6_maker_9 : decode cX6_maker 9 = .ok (.iconst (-1), 1) := by decide +kernel
theorem dX6_maker_10 : decode cX6_maker 10 = .ok (.invokevirtual 93, 3) := by decide +kernel
theorem dX6_maker_13 : decode cX6_maker 13 = .ok (.ireturn, 1) := by decide +kernel
theorem dX6_maker_14 : decode cX6_maker 14 = .ok (.iload_n 2, 1) := by decide +kernel
theorem dX6_maker_15 : decode cX6_maker 15 = .ok (.ifCond .ge 10, 3) := by decide +kernel
theorem dX6_maker_18 : decode cX6_maker 18 = .ok (.aload_n 0, 1) := by decide +kernel
theorem dX6_maker_19 : decode cX6_maker 19 = .ok (.bipush (-4), 2) := by decide +kernel
theorem dX6_maker_21 : decode cX6_maker 21 = .ok (.invokevirtual 93, 3) := by decide +kernel
theorem dX6_maker_24 : decode cX6_maker 24 = .ok (.ireturn, 1) := by decide +kernel
theorem dX6_maker_25 : decode cX6_maker 25 = .ok (.iload_n 2, 1) := by decide +kernel
theorem dX6_maker_26 : decode cX6_maker 26 = .ok (.sipush 1000, 3) := by decide +kernel
theorem dX6_maker_29 : decode cX6_maker 29 = .ok (.if_icmp .le 10, 3) := by decide +kernel
theorem dX6_maker_32 : decode cX6_maker 32 = .ok (.aload_n 0, 1) := by decide +kernel
theorem dX6_maker_33 : decode cX6_maker 33 = .ok (.bipush (-6), 2) := by decide +kernel
theorem dX6_maker_35 : decode cX6_maker 35 = .ok (.invokevirtual 93, 3) := by decide +kernel
theorem dX6_maker_38 : decode cX6_maker 38 = .ok (.ireturn, 1) := by decide +kernel
theorem dX6_maker_39 : decode cX6_maker 39 = .ok (.aload_n 0, 1) := by decide +kernel
theorem dX6_maker_40 : decode cX6_maker 40 = .ok (.getfield 16, 3) := by decide +kernel
theorem dX6_maker_43 : decode cX6_maker 43 = .ok (.iload_n 1, 1) := by decide +kernel
theorem dX6_maker_44 : decode cX6_maker 44 = .ok (.iaload, 1) := by decide +kernel
theorem dX6_maker_45 : decode cX6_maker 45 = .ok (.istore_n 3, 1) := by decide +kernel
theorem dX6_maker_46 : decode cX6_maker 46 = .ok (.aload_n 0, 1) := by decide +kernel
theorem dX6_maker_47 : decode cX6_maker 47 = .ok (.getfield 16, 3) := by decide +kernel
theorem dX6_maker_50 : decode cX6_maker 50 = .ok (.iload_n 1, 1) := by decide +kernel
theorem dX6_maker_51 : decode cX6_maker 51 = .ok (.iload_n 2, 1) := by decide +kernel
theorem dX6_maker_52 : decode cX6_maker 52 = .ok (.iastore, 1) := by decide +kernel
theorem dX6_maker_53 : decode cX6_maker 53 = .ok (.iload_n 3, 1) := by decide +kernel
theorem dX6_maker_54 : decode cX6_maker 54 = .ok (.ireturn, 1) := by decide +kernel
theorem dX6_log_0 : decode cX6_log 0 = .ok (.aload_n 0, 1) := by decide +kernel
theorem dX6_log_1 : decode cX6_log 1 = .ok (.getfield 101, 3) := by decide +kernel
theorem dX6_log_4 : decode cX6_log 4 = .ok (.sipush 600, 3) := by decide +kernel
theorem dX6_log_7 : decode cX6_log 7 = .ok (.if_icmp .ne 4, 3) := by decide +kernel
theorem dX6_log_10 : decode cX6_log 10 = .ok (.return_, 1) := by decide +kernel
theorem dX6_log_11 : decode cX6_log 11 = .ok (.aload_n 0, 1) := by decide +kernel
theorem dX6_log_12 : decode cX6_log 12 = .ok (.getfield 65, 3) := by decide +kernel
theorem dX6_log_15 : decode cX6_log 15 = .ok (.aload_n 0, 1) := by decide +kernel
theorem dX6_log_16 : decode cX6_log 16 = .ok (.getfield 101, 3) := by decide +kernel
theorem dX6_log_19 : decode cX6_log 19 = .ok (.iload_n 1, 1) := by decide +kernel
theorem dX6_log_20 : decode cX6_log 20 = .ok (.iastore, 1) := by decide +kernel
theorem dX6_log_21 : decode cX6_log 21 = .ok (.aload_n 0, 1) := by decide +kernel
theorem dX6_log_22 : decode cX6_log 22 = .ok (.getfield 68, 3) := by decide +kernel
theorem dX6_log_25 : decode cX6_log 25 = .ok (.aload_n 0, 1) := by decide +kernel
theorem dX6_log_26 : decode cX6_log 26 = .ok (.getfield 101, 3) := by decide +kernel
theorem dX6_log_29 : decode cX6_log 29 = .ok (.aload_n 0, 1) := by decide +kernel
theorem dX6_log_30 : decode cX6_log 30 = .ok (.getfield 104, 3) := by decide +kernel
theorem dX6_log_33 : decode cX6_log 33 = .ok (.iastore, 1) := by decide +kernel
theorem dX6_log_34 : decode cX6_log 34 = .ok (.aload_n 0, 1) := by decide +kernel
theorem dX6_log_35 : decode cX6_log 35 = .ok (.getfield 71, 3) := by decide +kernel
theorem dX6_log_38 : decode cX6_log 38 = .ok (.aload_n 0, 1) := by decide +kernel
theorem dX6_log_39 : decode cX6_log 39 = .ok (.getfield 101, 3) := by decide +kernel
theorem dX6_log_42 : decode cX6_log 42 = .ok (.aload_n 0, 1) := by decide +kernel
theorem dX6_log_43 : decode cX6_log 43 = .ok (.getfield 50, 3) := by decide +kernel
theorem dX6_log_46 : decode cX6_log 46 = .ok (.iload_n 1, 1) := by decide +kernel
theorem dX6_log_47 : decode cX6_log 47 = .ok (.iaload, 1) := by decide +kernel
theorem dX6_log_48 : decode cX6_log 48 = .ok (.iastore, 1) := by decide +kernel
theorem dX6_log_49 : decode cX6_log 49 = .ok (.aload_n 0, 1) := by decide +kernel
theorem dX6_log_50 : decode cX6_log 50 = .ok (.dup, 1) := by decide +kernel
theorem dX6_log_51 : decode cX6_log 51 = .ok (.getfield 101, 3) := by decide +kernel
theorem dX6_log_54 : decode cX6_log 54 = .ok (.iconst 1, 1) := by decide +kernel
theorem dX6_log_55 : decode cX6_log 55 = .ok (.iadd, 1) := by decide +kernel
theorem dX6_log_56 : decode cX6_log 56 = .ok (.putfield 101, 3) := by decide +kernel
theorem dX6_log_59 : decode cX6_log 59 = .ok (.return_, 1) := by decide +kernel
theorem dX6_hasRoom_0 : decode cX6_hasRoom 0 = .ok (.aload_n 0, 1) := by decide +kernel
theorem dX6_hasRoom_1 : decode cX6_hasRoom 1 = .ok (.getfield 101, 3) := by decide +kernel
theorem dX6_hasRoom_4 : decode cX6_hasRoom 4 = .ok (.iload_n 1, 1) := by decide +kernel
theorem dX6_hasRoom_5 : decode cX6_hasRoom 5 = .ok (.iadd, 1) := by decide +kernel
theorem dX6_hasRoom_6 : decode cX6_hasRoom 6 = .ok (.sipush 600, 3) := by decide +kernel
theorem dX6_hasRoom_9 : decode cX6_hasRoom 9 = .ok (.if_icmp .gt 7, 3) := by decide +kernel
theorem dX6_hasRoom_12 : decode cX6_hasRoom 12 = .ok (.iconst 1, 1) := by decide +kernel
theorem dX6_hasRoom_13 : decode cX6_hasRoom 13 = .ok (.goto 4, 3) := by decide +kernel
theorem dX6_hasRoom_16 : decode cX6_hasRoom 16 = .ok (.iconst 0, 1) := by decide +kernel
theorem dX6_hasRoom_17 : decode cX6_hasRoom 17 = .ok (.ireturn, 1) := by decide +kernel
theorem dX6_fresh_0 : decode cX6_fresh 0 = .ok (.aload_n 0, 1) := by decide +kernel
theorem dX6_fresh_1 : decode cX6_fresh 1 = .ok (.getfield 47, 3) := by decide +kernel
theorem dX6_fresh_4 : decode cX6_fresh 4 = .ok (.iload_n 1, 1) := by decide +kernel
theorem dX6_fresh_5 : decode cX6_fresh 5 = .ok (.iconst 0, 1) := by decide +kernel
theorem dX6_fresh_6 : decode cX6_fresh 6 = .ok (.iastore, 1) := by decide +kernel
theorem dX6_fresh_7 : decode cX6_fresh 7 = .ok (.aload_n 0, 1) := by decide +kernel
theorem dX6_fresh_8 : decode cX6_fresh 8 = .ok (.getfield 56, 3) := by decide +kernel
theorem dX6_fresh_11 : decode cX6_fresh 11 = .ok (.iload_n 1, 1) := by decide +kernel
theorem dX6_fresh_12 : decode cX6_fresh 12 = .ok (.iconst 1, 1) := by decide +kernel
theorem dX6_fresh_13 : decode cX6_fresh 13 = .ok (.iastore, 1) := by decide +kernel
theorem dX6_fresh_14 : decode cX6_fresh 14 = .ok (.aload_n 0, 1) := by decide +kernel
theorem dX6_fresh_15 : decode cX6_fresh 15 = .ok (.getfield 59, 3) := by decide +kernel
theorem dX6_fresh_18 : decode cX6_fresh 18 = .ok (.bipush 13, 2) := by decide +kernel
theorem dX6_fresh_20 : decode cX6_fresh 20 = .ok (.iload_n 1, 1) := by decide +kernel
theorem dX6_fresh_21 : decode cX6_fresh 21 = .ok (.imul, 1) := by decide +kernel
theorem dX6_fresh_22 : decode cX6_fresh 22 = .ok (.iconst 0, 1) := by decide +kernel
theorem dX6_fresh_23 : decode cX6_fresh 23 = .ok (.iastore, 1) := by decide +kernel
theorem dX6_fresh_24 : decode cX6_fresh 24 = .ok (.aload_n 0, 1) := by decide +kernel
theorem dX6_fresh_25 : decode cX6_fresh 25 = .ok (.getfield 62, 3) := by decide +kernel
theorem dX6_fresh_28 : decode cX6_fresh 28 = .ok (.bipush 13, 2) := by decide +kernel
theorem dX6_fresh_30 : decode cX6_fresh 30 = .ok (.iload_n 1, 1) := by decide +kernel
theorem dX6_fresh_31 : decode cX6_fresh 31 = .ok (.imul, 1) := by decide +kernel
theorem dX6_fresh_32 : decode cX6_fresh 32 = .ok (.sipush 180, 3) := by decide +kernel
theorem dX6_fresh_35 : decode cX6_fresh 35 = .ok (.iastore, 1) := by decide +kernel
theorem dX6_fresh_36 : decode cX6_fresh 36 = .ok (.return_, 1) := by decide +kernel
theorem dX6_buy_0 : decode cX6_buy 0 = .ok (.iload_n 1, 1) := by decide +kernel
theorem dX6_buy_1 : decode cX6_buy 1 = .ok (.iconst 4, 1) := by decide +kernel
theorem dX6_buy_2 : decode cX6_buy 2 = .ok (.invokestatic 89, 3) := by decide +kernel
theorem dX6_buy_5 : decode cX6_buy 5 = .ok (.ifCond .ne 9, 3) := by decide +kernel
theorem dX6_buy_8 : decode cX6_buy 8 = .ok (.aload_n 0, 1) := by decide +kernel
theorem dX6_buy_9 : decode cX6_buy 9 = .ok (.iconst (-1), 1) := by decide +kernel
theorem dX6_buy_10 : decode cX6_buy 10 = .ok (.invokevirtual 93, 3) := by decide +kernel
theorem dX6_buy_13 : decode cX6_buy 13 = .ok (.ireturn, 1) := by decide +kernel
theorem dX6_buy_14 : decode cX6_buy 14 = .ok (.aload_n 0, 1) := by decide +kernel
theorem dX6_buy_15 : decode cX6_buy 15 = .ok (.getfield 107, 3) := by decide +kernel
theorem dX6_buy_18 : decode cX6_buy 18 = .ok (.bipush 40, 2) := by decide +kernel
theorem dX6_buy_20 : decode cX6_buy 20 = .ok (.if_icmp .eq 11, 3) := by decide +kernel
theorem dX6_buy_23 : decode cX6_buy 23 = .ok (.aload_n 0, 1) := by decide +kernel
theorem dX6_buy_24 : decode cX6_buy 24 = .ok (.iconst 1, 1) := by decide +kernel
theorem dX6_buy_25 : decode cX6_buy 25 = .ok (.invokevirtual 110, 3) := by decide +kernel
theorem dX6_buy_28 : decode cX6_buy 28 = .ok (.ifCond .ne 10, 3) := by decide +kernel
theorem dX6_buy_31 : decode cX6_buy 31 = .ok (.aload_n 0, 1) := by decide +kernel
theorem dX6_buy_32 : decode cX6_buy 32 = .ok (.bipush (-6), 2) := by decide +kernel
theorem dX6_buy_34 : decode cX6_buy 34 = .ok (.invokevirtual 93, 3) := by decide +kernel
theorem dX6_buy_37 : decode cX6_buy 37 = .ok (.ireturn, 1) := by decide +kernel
theorem dX6_buy_38 : decode cX6_buy 38 = .ok (.aload_n 0, 1) := by decide +kernel
theorem dX6_buy_39 : decode cX6_buy 39 = .ok (.getfield 107, 3) := by decide +kernel
theorem dX6_buy_42 : decode cX6_buy 42 = .ok (.istore_n 2, 1) := by decide +kernel
theorem dX6_buy_43 : decode cX6_buy 43 = .ok (.aload_n 0, 1) := by decide +kernel
theorem dX6_buy_44 : decode cX6_buy 44 = .ok (.dup, 1) := by decide +kernel
theorem dX6_buy_45 : decode cX6_buy 45 = .ok (.getfield 107, 3) := by decide +kernel
theorem dX6_buy_48 : decode cX6_buy 48 = .ok (.iconst 1, 1) := by decide +kernel
theorem dX6_buy_49 : decode cX6_buy 49 = .ok (.iadd, 1) := by decide +kernel
theorem dX6_buy_50 : decode cX6_buy 50 = .ok (.putfield 107, 3) := by decide +kernel
theorem dX6_buy_53 : decode cX6_buy 53 = .ok (.aload_n 0, 1) := by decide +kernel
theorem dX6_buy_54 : decode cX6_buy 54 = .ok (.getfield 35, 3) := by decide +kernel
theorem dX6_buy_57 : decode cX6_buy 57 = .ok (.iload_n 2, 1) := by decide +kernel
theorem dX6_buy_58 : decode cX6_buy 58 = .ok (.iload_n 1, 1) := by decide +kernel
theorem dX6_buy_59 : decode cX6_buy 59 = .ok (.iastore, 1) := by decide +kernel
theorem dX6_buy_60 : decode cX6_buy 60 = .ok (.aload_n 0, 1) := by decide +kernel
theorem dX6_buy_61 : decode cX6_buy 61 = .ok (.getfield 38, 3) := by decide +kernel
theorem dX6_buy_64 : decode cX6_buy 64 = .ok (.iload_n 2, 1) := by decide +kernel
theorem dX6_buy_65 : decode cX6_buy 65 = .ok (.aload_n 0, 1) := by decide +kernel
theorem dX6_buy_66 : decode cX6_buy 66 = .ok (.getfield 104, 3) := by decide +kernel
theorem dX6_buy_69 : decode cX6_buy 69 = .ok (.iastore, 1) := by decide +kernel
theorem dX6_buy_70 : decode cX6_buy 70 = .ok (.aload_n 0, 1) := by decide +kernel
theorem dX6_buy_71 : decode cX6_buy 71 = .ok (.getfield 50, 3) := by decide +kernel
theorem dX6_buy_74 : decode cX6_buy 74 = .ok (.iload_n 2, 1) := by decide +kernel
theorem dX6_buy_75 : decode cX6_buy 75 = .ok (.iconst (-1), 1) := by decide +kernel
theorem dX6_buy_76 : decode cX6_buy 76 = .ok (.iastore, 1) := by decide +kernel
theorem dX6_buy_77 : decode cX6_buy 77 = .ok (.aload_n 0, 1) := by decide +kernel
theorem dX6_buy_78 : decode cX6_buy 78 = .ok (.iload_n 2, 1) := by decide +kernel
theorem dX6_buy_79 : decode cX6_buy 79 = .ok (.invokevirtual 114, 3) := by decide +kernel
theorem dX6_buy_82 : decode cX6_buy 82 = .ok (.aload_n 0, 1) := by decide +kernel
theorem dX6_buy_83 : decode cX6_buy 83 = .ok (.iload_n 2, 1) := by decide +kernel
theorem dX6_buy_84 : decode cX6_buy 84 = .ok (.invokevirtual 118, 3) := by decide +kernel
theorem dX6_buy_87 : decode cX6_buy 87 = .ok (.iload_n 2, 1) := by decide +kernel
theorem dX6_buy_88 : decode cX6_buy 88 = .ok (.ireturn, 1) := by decide +kernel
theorem dX6_lays_0 : decode cX6_lays 0 = .ok (.aload_n 0, 1) := by decide +kernel
theorem dX6_lays_1 : decode cX6_lays 1 = .ok (.getfield 50, 3) := by decide +kernel
theorem dX6_lays_4 : decode cX6_lays 4 = .ok (.iload_n 1, 1) := by decide +kernel
theorem dX6_lays_5 : decode cX6_lays 5 = .ok (.iload_n 2, 1) := by decide +kernel
theorem dX6_lays_6 : decode cX6_lays 6 = .ok (.iastore, 1) := by decide +kernel
theorem dX6_lays_7 : decode cX6_lays 7 = .ok (.aload_n 0, 1) := by decide +kernel
theorem dX6_lays_8 : decode cX6_lays 8 = .ok (.iload_n 1, 1) := by decide +kernel
theorem dX6_lays_9 : decode cX6_lays 9 = .ok (.invokevirtual 118, 3) := by decide +kernel
theorem dX6_lays_12 : decode cX6_lays 12 = .ok (.return_, 1) := by decide +kernel
theorem dX6_put_0 : decode cX6_put 0 = .ok (.iload_n 1, 1) := by decide +kernel
theorem dX6_put_1 : decode cX6_put 1 = .ok (.aload_n 0, 1) := by decide +kernel
theorem dX6_put_2 : decode cX6_put 2 = .ok (.getfield 107, 3) := by decide +kernel
theorem dX6_put_5 : decode cX6_put 5 = .ok (.invokestatic 89, 3) := by decide +kernel
theorem dX6_put_8 : decode cX6_put 8 = .ok (.ifCond .eq 12, 3) := by decide +kernel
theorem dX6_put_11 : decode cX6_put 11 = .ok (.aload_n 0, 1) := by decide +kernel
theorem dX6_put_12 : decode cX6_put 12 = .ok (.iload_n 2, 1) := by decide +kernel
theorem dX6_put_13 : decode cX6_put 13 = .ok (.iload_n 3, 1) := by decide +kernel
theorem dX6_put_14 : decode cX6_put 14 = .ok (.invokevirtual 121, 3) := by decide +kernel
theorem dX6_put_17 : decode cX6_put 17 = .ok (.ifCond .ne 9, 3) := by decide +kernel
theorem dX6_put_20 : decode cX6_put 20 = .ok (.aload_n 0, 1) := by decide +kernel
theorem dX6_put_21 : decode cX6_put 21 = .ok (.iconst (-1), 1) := by decide +kernel
theorem dX6_put_22 : decode cX6_put 22 = .ok (.invokevirtual 93, 3) := by decide +kernel
theorem dX6_put_25 : decode cX6_put 25 = .ok (.ireturn, 1) := by decide +kernel
theorem dX6_put_26 : decode cX6_put 26 = .ok (.aload_n 0, 1) := by decide +kernel
theorem dX6_put_27 : decode cX6_put 27 = .ok (.getfield 50, 3) := by decide +kernel
theorem dX6_put_30 : decode cX6_put 30 = .ok (.iload_n 1, 1) := by decide +kernel
theorem dX6_put_31 : decode cX6_put 31 = .ok (.iaload, 1) := by decide +kernel
theorem dX6_put_32 : decode cX6_put 32 = .ok (.iconst (-1), 1) := by decide +kernel
theorem dX6_put_33 : decode cX6_put 33 = .ok (.if_icmp .ne 16, 3) := by decide +kernel
theorem dX6_put_36 : decode cX6_put 36 = .ok (.aload_n 0, 1) := by decide +kernel
theorem dX6_put_37 : decode cX6_put 37 = .ok (.getfield 29, 3) := by decide +kernel
theorem dX6_put_40 : decode cX6_put 40 = .ok (.iload_n 2, 1) := by decide +kernel
theorem dX6_put_41 : decode cX6_put 41 = .ok (.iload_n 3, 1) := by decide +kernel
theorem dX6_put_42 : decode cX6_put 42 = .ok (.invokestatic 97, 3) := by decide +kernel
theorem dX6_put_45 : decode cX6_put 45 = .ok (.iaload, 1) := by decide +kernel
theorem dX6_put_46 : decode cX6_put 46 = .ok (.ifCond .lt 10, 3) := by decide +kernel
theorem dX6_put_49 : decode cX6_put 49 = .ok (.aload_n 0, 1) := by decide +kernel
theorem dX6_put_50 : decode cX6_put 50 = .ok (.bipush (-2), 2) := by decide +kernel
theorem dX6_put_52 : decode cX6_put 52 = .ok (.invokevirtual 93, 3) := by decide +kernel
theorem dX6_put_55 : decode cX6_put 55 = .ok (.ireturn, 1) := by decide +kernel
theorem dX6_put_56 : decode cX6_put 56 = .ok (.aload_n 0, 1) := by decide +kernel
theorem dX6_put_57 : decode cX6_put 57 = .ok (.iconst 1, 1) := by decide +kernel
theorem dX6_put_58 : decode cX6_put 58 = .ok (.invokevirtual 110, 3) := by decide +kernel
theorem dX6_put_61 : decode cX6_put 61 = .ok (.ifCond .ne 10, 3) := by decide +kernel
theorem dX6_put_64 : decode cX6_put 64 = .ok (.aload_n 0, 1) := by decide +kernel
theorem dX6_put_65 : decode cX6_put 65 = .ok (.bipush (-6), 2) := by decide +kernel
theorem dX6_put_67 : decode cX6_put 67 = .ok (.invokevirtual 93, 3) := by decide +kernel
theorem dX6_put_70 : decode cX6_put 70 = .ok (.ireturn, 1) := by decide +kernel
theorem dX6_put_71 : decode cX6_put 71 = .ok (.aload_n 0, 1) := by decide +kernel
theorem dX6_put_72 : decode cX6_put 72 = .ok (.getfield 29, 3) := by decide +kernel
theorem dX6_put_75 : decode cX6_put 75 = .ok (.iload_n 2, 1) := by decide +kernel
theorem dX6_put_76 : decode cX6_put 76 = .ok (.iload_n 3, 1) := by decide +kernel
theorem dX6_put_77 : decode cX6_put 77 = .ok (.invokestatic 97, 3) := by decide +kernel
theorem dX6_put_80 : decode cX6_put 80 = .ok (.iload_n 1, 1) := by decide +kernel
theorem dX6_put_81 : decode cX6_put 81 = .ok (.iastore, 1) := by decide +kernel
theorem dX6_put_82 : decode cX6_put 82 = .ok (.aload_n 0, 1) := by decide +kernel
theorem dX6_put_83 : decode cX6_put 83 = .ok (.iload_n 1, 1) := by decide +kernel
theorem dX6_put_84 : decode cX6_put 84 = .ok (.bipush 10, 2) := by decide +kernel
theorem dX6_put_86 : decode cX6_put 86 = .ok (.iload_n 2, 1) := by decide +kernel
theorem dX6_put_87 : decode cX6_put 87 = .ok (.imul, 1) := by decide +kernel
theorem dX6_put_88 : decode cX6_put 88 = .ok (.iload_n 3, 1) := by decide +kernel
theorem dX6_put_89 : decode cX6_put 89 = .ok (.iadd, 1) := by decide +kernel
theorem dX6_put_90 : decode cX6_put 90 = .ok (.invokevirtual 124, 3) := by decide +kernel
theorem dX6_put_93 : decode cX6_put 93 = .ok (.iconst 1, 1) := by decide +kernel
theorem dX6_put_94 : decode cX6_put 94 = .ok (.ireturn, 1) := by decide +kernel
theorem dX6_take_0 : decode cX6_take 0 = .ok (.aload_n 0, 1) := by decide +kernel
theorem dX6_take_1 : decode cX6_take 1 = .ok (.iload_n 1, 1) := by decide +kernel
theorem dX6_take_2 : decode cX6_take 2 = .ok (.iload_n 2, 1) := by decide +kernel
theorem dX6_take_3 : decode cX6_take 3 = .ok (.invokevirtual 121, 3) := by decide +kernel
theorem dX6_take_6 : decode cX6_take 6 = .ok (.ifCond .ne 9, 3) := by decide +kernel
theorem dX6_take_9 : decode cX6_take 9 = .ok (.aload_n 0, 1) := by decide +kernel
theorem dX6_take_10 : decode cX6_take 10 = .ok (.iconst (-1), 1) := by decide +kernel
theorem dX6_take_11 : decode cX6_take 11 = .ok (.invokevirtual 93, 3) := by decide +kernel
theorem dX6_take_14 : decode cX6_take 14 = .ok (.ireturn, 1) := by decide +kernel
theorem dX6_take_15 : decode cX6_take 15 = .ok (.aload_n 0, 1) := by decide +kernel
theorem dX6_take_16 : decode cX6_take 16 = .ok (.getfield 29, 3) := by decide +kernel
theorem dX6_take_19 : decode cX6_take 19 = .ok (.iload_n 1, 1) := by decide +kernel
theorem dX6_take_20 : decode cX6_take 20 = .ok (.iload_n 2, 1) := by decide +kernel
theorem dX6_take_21 : decode cX6_take 21 = .ok (.invokestatic 97, 3) := by decide +kernel
theorem dX6_take_24 : decode cX6_take 24 = .ok (.iaload, 1) := by decide +kernel
theorem dX6_take_25 : decode cX6_take 25 = .ok (.istore_n 3, 1) := by decide +kernel
theorem dX6_take_26 : decode cX6_take 26 = .ok (.iload_n 3, 1) := by decide +kernel
theorem dX6_take_27 : decode cX6_take 27 = .ok (.ifCond .ge 10, 3) := by decide +kernel
theorem dX6_take_30 : decode cX6_take 30 = .ok (.aload_n 0, 1) := by decide +kernel
theorem dX6_take_31 : decode cX6_take 31 = .ok (.bipush (-2), 2) := by decide +kernel
theorem dX6_take_33 : decode cX6_take 33 = .ok (.invokevirtual 93, 3) := by decide +kernel
theorem dX6_take_36 : decode cX6_take 36 = .ok (.ireturn, 1) := by decide +kernel
theorem dX6_take_37 : decode cX6_take 37 = .ok (.aload_n 0, 1) := by decide +kernel
theorem dX6_take_38 : decode cX6_take 38 = .ok (.iconst 1, 1) := by decide +kernel
theorem dX6_take_39 : decode cX6_take 39 = .ok (.invokevirtual 110, 3) := by decide +kernel
theorem dX6_take_42 : decode cX6_take 42 = .ok (.ifCond .ne 10, 3) := by decide +kernel
theorem dX6_take_45 : decode cX6_take 45 = .ok (.aload_n 0, 1) := by decide +kernel
theorem dX6_take_46 : decode cX6_take 46 = .ok (.bipush (-6), 2) := by decide +kernel
theorem dX6_take_48 : decode cX6_take 48 = .ok (.invokevirtual 93, 3) := by decide +kernel
theorem dX6_take_51 : decode cX6_take 51 = .ok (.ireturn, 1) := by decide +kernel
theorem dX6_take_52 : decode cX6_take 52 = .ok (.aload_n 0, 1) := by decide +kernel
theorem dX6_take_53 : decode cX6_take 53 = .ok (.getfield 29, 3) := by decide +kernel
theorem dX6_take_56 : decode cX6_take 56 = .ok (.iload_n 1, 1) := by decide +kernel
theorem dX6_take_57 : decode cX6_take 57 = .ok (.iload_n 2, 1) := by decide +kernel
theorem dX6_take_58 : decode cX6_take 58 = .ok (.invokestatic 97, 3) := by decide +kernel
theorem dX6_take_61 : decode cX6_take 61 = .ok (.iconst (-1), 1) := by decide +kernel
theorem dX6_take_62 : decode cX6_take 62 = .ok (.iastore, 1) := by decide +kernel
theorem dX6_take_63 : decode cX6_take 63 = .ok (.aload_n 0, 1) := by decide +kernel
theorem dX6_take_64 : decode cX6_take 64 = .ok (.iload_n 3, 1) := by decide +kernel
theorem dX6_take_65 : decode cX6_take 65 = .ok (.iconst (-1), 1) := by decide +kernel
theorem dX6_take_66 : decode cX6_take 66 = .ok (.invokevirtual 124, 3) := by decide +kernel
theorem dX6_take_69 : decode cX6_take 69 = .ok (.iload_n 3, 1) := by decide +kernel
theorem dX6_take_70 : decode cX6_take 70 = .ok (.ireturn, 1) := by decide +kernel
theorem dX6_swap_0 : decode cX6_swap 0 = .ok (.aload_n 0, 1) := by decide +kernel
theorem dX6_swap_1 : decode cX6_swap 1 = .ok (.iload_n 1, 1) := by decide +kernel
theorem dX6_swap_2 : decode cX6_swap 2 = .ok (.iload_n 2, 1) := by decide +kernel
theorem dX6_swap_3 : decode cX6_swap 3 = .ok (.invokevirtual 121, 3) := by decide +kernel
theorem dX6_swap_6 : decode cX6_swap 6 = .ok (.ifCond .eq 24, 3) := by decide +kernel
theorem dX6_swap_9 : decode cX6_swap 9 = .ok (.aload_n 0, 1) := by decide +kernel
theorem dX6_swap_10 : decode cX6_swap 10 = .ok (.iload_n 3, 1) := by decide +kernel
theorem dX6_swap_11 : decode cX6_swap 11 = .ok (.iload 4, 2) := by decide +kernel
theorem dX6_swap_13 : decode cX6_swap 13 = .ok (.invokevirtual 121, 3) := by decide +kernel
theorem dX6_swap_16 : decode cX6_swap 16 = .ok (.ifCond .eq 14, 3) := by decide +kernel
theorem dX6_swap_19 : decode cX6_swap 19 = .ok (.iload_n 1, 1) := by decide +kernel
theorem dX6_swap_20 : decode cX6_swap 20 = .ok (.iload_n 3, 1) := by decide +kernel
theorem dX6_swap_21 : decode cX6_swap 21 = .ok (.if_icmp .ne 15, 3) := by decide +kernel
theorem dX6_swap_24 : decode cX6_swap 24 = .ok (.iload_n 2, 1) := by decide +kernel
theorem dX6_swap_25 : decode cX6_swap 25 = .ok (.iload 4, 2) := by decide +kernel
theorem dX6_swap_27 : decode cX6_swap 27 = .ok (.if_icmp .ne 9, 3) := by decide +kernel
theorem dX6_swap_30 : decode cX6_swap 30 = .ok (.aload_n 0, 1) := by decide +kernel
theorem dX6_swap_31 : decode cX6_swap 31 = .ok (.iconst (-1), 1) := by decide +kernel
theorem dX6_swap_32 : decode cX6_swap 32 = .ok (.invokevirtual 93, 3) := by decide +kernel
theorem dX6_swap_35 : decode cX6_swap 35 = .ok (.ireturn, 1) := by decide +kernel
theorem dX6_swap_36 : decode cX6_swap 36 = .ok (.aload_n 0, 1) := by decide +kernel
theorem dX6_swap_37 : decode cX6_swap 37 = .ok (.getfield 29, 3) := by decide +kernel
theorem dX6_swap_40 : decode cX6_swap 40 = .ok (.iload_n 1, 1) := by decide +kernel
theorem dX6_swap_41 : decode cX6_swap 41 = .ok (.iload_n 2, 1) := by decide +kernel
theorem dX6_swap_42 : decode cX6_swap 42 = .ok (.invokestatic 97, 3) := by decide +kernel
theorem dX6_swap_45 : decode cX6_swap 45 = .ok (.iaload, 1) := by decide +kernel
theorem dX6_swap_46 : decode cX6_swap 46 = .ok (.istore 5, 2) := by decide +kernel
theorem dX6_swap_48 : decode cX6_swap 48 = .ok (.aload_n 0, 1) := by decide +kernel
theorem dX6_swap_49 : decode cX6_swap 49 = .ok (.getfield 29, 3) := by decide +kernel
theorem dX6_swap_52 : decode cX6_swap 52 = .ok (.iload_n 3, 1) := by decide +kernel
theorem dX6_swap_53 : decode cX6_swap 53 = .ok (.iload 4, 2) := by decide +kernel
theorem dX6_swap_55 : decode cX6_swap 55 = .ok (.invokestatic 97, 3) := by decide +kernel
theorem dX6_swap_58 : decode cX6_swap 58 = .ok (.iaload, 1) := by decide +kernel
theorem dX6_swap_59 : decode cX6_swap 59 = .ok (.istore 6, 2) := by decide +kernel
theorem dX6_swap_61 : decode cX6_swap 61 = .ok (.iload 5, 2) := by decide +kernel
theorem dX6_swap_63 : decode cX6_swap 63 = .ok (.ifCond .ge 15, 3) := by decide +kernel
theorem dX6_swap_66 : decode cX6_swap 66 = .ok (.iload 6, 2) := by decide +kernel
theorem dX6_swap_68 : decode cX6_swap 68 = .ok (.ifCond .ge 10, 3) := by decide +kernel
theorem dX6_swap_71 : decode cX6_swap 71 = .ok (.aload_n 0, 1) := by decide +kernel
theorem dX6_swap_72 : decode cX6_swap 72 = .ok (.bipush (-2), 2) := by decide +kernel
theorem dX6_swap_74 : decode cX6_swap 74 = .ok (.invokevirtual 93, 3) := by decide +kernel
theorem dX6_swap_77 : decode cX6_swap 77 = .ok (.ireturn, 1) := by decide +kernel
theorem dX6_swap_78 : decode cX6_swap 78 = .ok (.aload_n 0, 1) := by decide +kernel
theorem dX6_swap_79 : decode cX6_swap 79 = .ok (.iload 5, 2) := by decide +kernel
theorem dX6_swap_81 : decode cX6_swap 81 = .ok (.ifCond .lt 8, 3) := by decide +kernel
theorem dX6_swap_84 : decode cX6_swap 84 = .ok (.iload 6, 2) := by decide +kernel
theorem dX6_swap_86 : decode cX6_swap 86 = .ok (.ifCond .ge 7, 3) := by decide +kernel
theorem dX6_swap_89 : decode cX6_swap 89 = .ok (.iconst 1, 1) := by decide +kernel
theorem dX6_swap_90 : decode cX6_swap 90 = .ok (.goto 4, 3) := by decide +kernel
theorem dX6_swap_93 : decode cX6_swap 93 = .ok (.iconst 2, 1) := by decide +kernel
theorem dX6_swap_94 : decode cX6_swap 94 = .ok (.invokevirtual 110, 3) := by decide +kernel
theorem dX6_swap_97 : decode cX6_swap 97 = .ok (.ifCond .ne 10, 3) := by decide +kernel
theorem dX6_swap_100 : decode cX6_swap 100 = .ok (.aload_n 0, 1) := by decide +kernel
theorem dX6_swap_101 : decode cX6_swap 101 = .ok (.bipush (-6), 2) := by decide +kernel
theorem dX6_swap_103 : decode cX6_swap 103 = .ok (.invokevirtual 93, 3) := by decide +kernel
theorem dX6_swap_106 : decode cX6_swap 106 = .ok (.ireturn, 1) := by decide +kernel
theorem dX6_swap_107 : decode cX6_swap 107 = .ok (.aload_n 0, 1) := by decide +kernel
theorem dX6_swap_108 : decode cX6_swap 108 = .ok (.getfield 29, 3) := by decide +kernel
theorem dX6_swap_111 : decode cX6_swap 111 = .ok (.iload_n 1, 1) := by decide +kernel
theorem dX6_swap_112 : decode cX6_swap 112 = .ok (.iload_n 2, 1) := by decide +kernel
theorem dX6_swap_113 : decode cX6_swap 113 = .ok (.invokestatic 97, 3) := by decide +kernel
theorem dX6_swap_116 : decode cX6_swap 116 = .ok (.iload 6, 2) := by decide +kernel
theorem dX6_swap_118 : decode cX6_swap 118 = .ok (.iastore, 1) := by decide +kernel
theorem dX6_swap_119 : decode cX6_swap 119 = .ok (.aload_n 0, 1) := by decide +kernel
theorem dX6_swap_120 : decode cX6_swap 120 = .ok (.getfield 29, 3) := by decide +kernel
theorem dX6_swap_123 : decode cX6_swap 123 = .ok (.iload_n 3, 1) := by decide +kernel
theorem dX6_swap_124 : decode cX6_swap 124 = .ok (.iload 4, 2) := by decide +kernel
theorem dX6_swap_126 : decode cX6_swap 126 = .ok (.invokestatic 97, 3) := by decide +kernel
theorem dX6_swap_129 : decode cX6_swap 129 = .ok (.iload 5, 2) := by decide +kernel
theorem dX6_swap_131 : decode cX6_swap 131 = .ok (.iastore, 1) := by decide +kernel
theorem dX6_swap_132 : decode cX6_swap 132 = .ok (.iload 5, 2) := by decide +kernel
theorem dX6_swap_134 : decode cX6_swap 134 = .ok (.ifCond .lt 16, 3) := by decide +kernel
theorem dX6_swap_137 : decode cX6_swap 137 = .ok (.aload_n 0, 1) := by decide +kernel
theorem dX6_swap_138 : decode cX6_swap 138 = .ok (.iload 5, 2) := by decide +kernel
theorem dX6_swap_140 : decode cX6_swap 140 = .ok (.bipush 10, 2) := by decide +kernel
theorem dX6_swap_142 : decode cX6_swap 142 = .ok (.iload_n 3, 1) := by decide +kernel
theorem dX6_swap_143 : decode cX6_swap 143 = .ok (.imul, 1) := by decide +kernel
theorem dX6_swap_144 : decode cX6_swap 144 = .ok (.iload 4, 2) := by decide +kernel
theorem dX6_swap_146 : decode cX6_swap 146 = .ok (.iadd, 1) := by decide +kernel
theorem dX6_swap_147 : decode cX6_swap 147 = .ok (.invokevirtual 124, 3) := by decide +kernel
theorem dX6_swap_150 : decode cX6_swap 150 = .ok (.iload 6, 2) := by decide +kernel
theorem dX6_swap_152 : decode cX6_swap 152 = .ok (.ifCond .lt 15, 3) := by decide +kernel
theorem dX6_swap_155 : decode cX6_swap 155 = .ok (.aload_n 0, 1) := by decide +kernel
