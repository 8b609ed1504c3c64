theorem dX2_init_0 : decode cX2_init 0 = .ok (.aload_n 0, 1) := by decide +kernel
theorem dX2_init_1 : decode cX2_init 1 = .ok (.invokespecial 3, 3) := by decide +kernel
theorem dX2_init_4 : decode cX2_init 4 = .ok (.aload_n 0, 1) := by decide +kernel
theorem dX2_init_5 : decode cX2_init 5 = .ok (.bipush 12, 2) := by decide +kernel
theorem dX2_init_7 : decode cX2_init 7 = .ok (.newarray .int, 2) := by decide +kernel
theorem dX2_init_9 : decode cX2_init 9 = .ok (.putfield 9, 3) := by decide +kernel
theorem dX2_init_12 : decode cX2_init 12 = .ok (.aload_n 0, 1) := by decide +kernel
theorem dX2_init_13 : decode cX2_init 13 = .ok (.bipush 12, 2) := by decide +kernel
theorem dX2_init_15 : decode cX2_init 15 = .ok (.newarray .int, 2) := by decide +kernel
theorem dX2_init_17 : decode cX2_init 17 = .ok (.putfield 15, 3) := by decide +kernel
theorem dX2_init_20 : decode cX2_init 20 = .ok (.aload_n 0, 1) := by decide +kernel
theorem dX2_init_21 : decode cX2_init 21 = .ok (.new 18, 3) := by decide +kernel
theorem dX2_init_24 : decode cX2_init 24 = .ok (.dup, 1) := by decide +kernel
theorem dX2_init_25 : decode cX2_init 25 = .ok (.invokespecial 20, 3) := by decide +kernel
theorem dX2_init_28 : decode cX2_init 28 = .ok (.putfield 21, 3) := by decide +kernel
theorem dX2_init_31 : decode cX2_init 31 = .ok (.aload_n 0, 1) := by decide +kernel
theorem dX2_init_32 : decode cX2_init 32 = .ok (.iconst (-1), 1) := by decide +kernel
theorem dX2_init_33 : decode cX2_init 33 = .ok (.putfield 25, 3) := by decide +kernel
theorem dX2_init_36 : decode cX2_init 36 = .ok (.aload_n 0, 1) := by decide +kernel
theorem dX2_init_37 : decode cX2_init 37 = .ok (.bipush (-9), 2) := by decide +kernel
theorem dX2_init_39 : decode cX2_init 39 = .ok (.putfield 29, 3) := by decide +kernel
theorem dX2_init_42 : decode cX2_init 42 = .ok (.aload_n 0, 1) := by decide +kernel
theorem dX2_init_43 : decode cX2_init 43 = .ok (.iload_n 1, 1) := by decide +kernel
theorem dX2_init_44 : decode cX2_init 44 = .ok (.putfield 32, 3) := by decide +kernel
theorem dX2_init_47 : decode cX2_init 47 = .ok (.aload_n 0, 1) := by decide +kernel
theorem dX2_init_48 : decode cX2_init 48 = .ok (.iload_n 2, 1) := by decide +kernel
theorem dX2_init_49 : decode cX2_init 49 = .ok (.putfield 35, 3) := by decide +kernel
theorem dX2_init_52 : decode cX2_init 52 = .ok (.aload_n 0, 1) := by decide +kernel
theorem dX2_init_53 : decode cX2_init 53 = .ok (.iload_n 3, 1) := by decide +kernel
theorem dX2_init_54 : decode cX2_init 54 = .ok (.putfield 38, 3) := by decide +kernel
theorem dX2_init_57 : decode cX2_init 57 = .ok (.return_, 1) := by decide +kernel
theorem dX2_startTread_0 : decode cX2_startTread 0 = .ok (.aload_n 0, 1) := by decide +kernel
theorem dX2_startTread_1 : decode cX2_startTread 1 = .ok (.iconst 0, 1) := by decide +kernel
theorem dX2_startTread_2 : decode cX2_startTread 2 = .ok (.putfield 41, 3) := by decide +kernel
theorem dX2_startTread_5 : decode cX2_startTread 5 = .ok (.aload_n 0, 1) := by decide +kernel
theorem dX2_startTread_6 : decode cX2_startTread 6 = .ok (.iconst 0, 1) := by decide +kernel
theorem dX2_startTread_7 : decode cX2_startTread 7 = .ok (.putfield 44, 3) := by decide +kernel
theorem dX2_startTread_10 : decode cX2_startTread 10 = .ok (.aload_n 0, 1) := by decide +kernel
theorem dX2_startTread_11 : decode cX2_startTread 11 = .ok (.sipush 180, 3) := by decide +kernel
theorem dX2_startTread_14 : decode cX2_startTread 14 = .ok (.invokevirtual 47, 3) := by decide +kernel
theorem dX2_startTread_17 : decode cX2_startTread 17 = .ok (.aload_n 0, 1) := by decide +kernel
theorem dX2_startTread_18 : decode cX2_startTread 18 = .ok (.iload_n 1, 1) := by decide +kernel
theorem dX2_startTread_19 : decode cX2_startTread 19 = .ok (.invokevirtual 51, 3) := by decide +kernel
theorem dX2_startTread_22 : decode cX2_startTread 22 = .ok (.return_, 1) := by decide +kernel
theorem dX2_hasReading_0 : decode cX2_hasReading 0 = .ok (.iload_n 1, 1) := by decide +kernel
theorem dX2_hasReading_1 : decode cX2_hasReading 1 = .ok (.ifCond .lt 15, 3) := by decide +kernel
theorem dX2_hasReading_4 : decode cX2_hasReading 4 = .ok (.iload_n 1, 1) := by decide +kernel
theorem dX2_hasReading_5 : decode cX2_hasReading 5 = .ok (.aload_n 0, 1) := by decide +kernel
theorem dX2_hasReading_6 : decode cX2_hasReading 6 = .ok (.getfield 44, 3) := by decide +kernel
theorem dX2_hasReading_9 : decode cX2_hasReading 9 = .ok (.if_icmp .ge 7, 3) := by decide +kernel
theorem dX2_hasReading_12 : decode cX2_hasReading 12 = .ok (.iconst 1, 1) := by decide +kernel
theorem dX2_hasReading_13 : decode cX2_hasReading 13 = .ok (.goto 4, 3) := by decide +kernel
theorem dX2_hasReading_16 : decode cX2_hasReading 16 = .ok (.iconst 0, 1) := by decide +kernel
theorem dX2_hasReading_17 : decode cX2_hasReading 17 = .ok (.ireturn, 1) := by decide +kernel
theorem dX2_addReading_0 : decode cX2_addReading 0 = .ok (.aload_n 0, 1) := by decide +kernel
theorem dX2_addReading_1 : decode cX2_addReading 1 = .ok (.getfield 44, 3) := by decide +kernel
theorem dX2_addReading_4 : decode cX2_addReading 4 = .ok (.bipush 12, 2) := by decide +kernel
theorem dX2_addReading_6 : decode cX2_addReading 6 = .ok (.if_icmp .lt 7, 3) := by decide +kernel
theorem dX2_addReading_9 : decode cX2_addReading 9 = .ok (.aload_n 0, 1) := by decide +kernel
theorem dX2_addReading_10 : decode cX2_addReading 10 = .ok (.invokevirtual 54, 3) := by decide +kernel
theorem dX2_addReading_13 : decode cX2_addReading 13 = .ok (.aload_n 0, 1) := by decide +kernel
theorem dX2_addReading_14 : decode cX2_addReading 14 = .ok (.getfield 9, 3) := by decide +kernel
theorem dX2_addReading_17 : decode cX2_addReading 17 = .ok (.aload_n 0, 1) := by decide +kernel
theorem dX2_addReading_18 : decode cX2_addReading 18 = .ok (.getfield 44, 3) := by decide +kernel
theorem dX2_addReading_21 : decode cX2_addReading 21 = .ok (.aload_n 0, 1) := by decide +kernel
theorem dX2_addReading_22 : decode cX2_addReading 22 = .ok (.getfield 41, 3) := by decide +kernel
theorem dX2_addReading_25 : decode cX2_addReading 25 = .ok (.invokestatic 57, 3) := by decide +kernel
theorem dX2_addReading_28 : decode cX2_addReading 28 = .ok (.aload_n 0, 1) := by decide +kernel
theorem dX2_addReading_29 : decode cX2_addReading 29 = .ok (.getfield 15, 3) := by decide +kernel
theorem dX2_addReading_32 : decode cX2_addReading 32 = .ok (.aload_n 0, 1) := by decide +kernel
theorem dX2_addReading_33 : decode cX2_addReading 33 = .ok (.getfield 44, 3) := by decide +kernel
theorem dX2_addReading_36 : decode cX2_addReading 36 = .ok (.iload_n 1, 1) := by decide +kernel
theorem dX2_addReading_37 : decode cX2_addReading 37 = .ok (.invokestatic 57, 3) := by decide +kernel
theorem dX2_addReading_40 : decode cX2_addReading 40 = .ok (.aload_n 0, 1) := by decide +kernel
theorem dX2_addReading_41 : decode cX2_addReading 41 = .ok (.dup, 1) := by decide +kernel
theorem dX2_addReading_42 : decode cX2_addReading 42 = .ok (.getfield 44, 3) := by decide +kernel
theorem dX2_addReading_45 : decode cX2_addReading 45 = .ok (.iconst 1, 1) := by decide +kernel
theorem dX2_addReading_46 : decode cX2_addReading 46 = .ok (.iadd, 1) := by decide +kernel
theorem dX2_addReading_47 : decode cX2_addReading 47 = .ok (.putfield 44, 3) := by decide +kernel
theorem dX2_addReading_50 : decode cX2_addReading 50 = .ok (.return_, 1) := by decide +kernel
theorem dX2_dropSecondReading_0 : decode cX2_dropSecondReading 0 = .ok (.iconst 2, 1) := by decide +kernel
theorem dX2_dropSecondReading_1 : decode cX2_dropSecondReading 1 = .ok (.istore_n 1, 1) := by decide +kernel
theorem dX2_dropSecondReading_2 : decode cX2_dropSecondReading 2 = .ok (.iload_n 1, 1) := by decide +kernel
theorem dX2_dropSecondReading_3 : decode cX2_dropSecondReading 3 = .ok (.bipush 12, 2) := by decide +kernel
theorem dX2_dropSecondReading_5 : decode cX2_dropSecondReading 5 = .ok (.if_icmp .ge 45, 3) := by decide +kernel
theorem dX2_dropSecondReading_8 : decode cX2_dropSecondReading 8 = .ok (.aload_n 0, 1) := by decide +kernel
theorem dX2_dropSecondReading_9 : decode cX2_dropSecondReading 9 = .ok (.getfield 9, 3) := by decide +kernel
theorem dX2_dropSecondReading_12 : decode cX2_dropSecondReading 12 = .ok (.iload_n 1, 1) := by decide +kernel
theorem dX2_dropSecondReading_13 : decode cX2_dropSecondReading 13 = .ok (.iconst 1, 1) := by decide +kernel
theorem dX2_dropSecondReading_14 : decode cX2_dropSecondReading 14 = .ok (.isub, 1) := by decide +kernel
theorem dX2_dropSecondReading_15 : decode cX2_dropSecondReading 15 = .ok (.aload_n 0, 1) := by decide +kernel
theorem dX2_dropSecondReading_16 : decode cX2_dropSecondReading 16 = .ok (.getfield 9, 3) := by decide +kernel
theorem dX2_dropSecondReading_19 : decode cX2_dropSecondReading 19 = .ok (.iload_n 1, 1) := by decide +kernel
theorem dX2_dropSecondReading_20 : decode cX2_dropSecondReading 20 = .ok (.invokestatic 61, 3) := by decide +kernel
theorem dX2_dropSecondReading_23 : decode cX2_dropSecondReading 23 = .ok (.invokestatic 57, 3) := by decide +kernel
theorem dX2_dropSecondReading_26 : decode cX2_dropSecondReading 26 = .ok (.aload_n 0, 1) := by decide +kernel
theorem dX2_dropSecondReading_27 : decode cX2_dropSecondReading 27 = .ok (.getfield 15, 3) := by decide +kernel
theorem dX2_dropSecondReading_30 : decode cX2_dropSecondReading 30 = .ok (.iload_n 1, 1) := by decide +kernel
theorem dX2_dropSecondReading_31 : decode cX2_dropSecondReading 31 = .ok (.iconst 1, 1) := by decide +kernel
theorem dX2_dropSecondReading_32 : decode cX2_dropSecondReading 32 = .ok (.isub, 1) := by decide +kernel
theorem dX2_dropSecondReading_33 : decode cX2_dropSecondReading 33 = .ok (.aload_n 0, 1) := by decide +kernel
theorem dX2_dropSecondReading_34 : decode cX2_dropSecondReading 34 = .ok (.getfield 15, 3) := by decide +kernel
theorem dX2_dropSecondReading_37 : decode cX2_dropSecondReading 37 = .ok (.iload_n 1, 1) := by decide +kernel
theorem dX2_dropSecondReading_38 : decode cX2_dropSecondReading 38 = .ok (.invokestatic 61, 3) := by decide +kernel
theorem dX2_dropSecondReading_41 : decode cX2_dropSecondReading 41 = .ok (.invokestatic 57, 3) := by decide +kernel
theorem dX2_dropSecondReading_44 : decode cX2_dropSecondReading 44 = .ok (.iinc 1 1, 3) := by decide +kernel
theorem dX2_dropSecondReading_47 : decode cX2_dropSecondReading 47 = .ok (.goto (-45), 3) := by decide +kernel
theorem dX2_dropSecondReading_50 : decode cX2_dropSecondReading 50 = .ok (.aload_n 0, 1) := by decide +kernel
theorem dX2_dropSecondReading_51 : decode cX2_dropSecondReading 51 = .ok (.bipush 11, 2) := by decide +kernel
theorem dX2_dropSecondReading_53 : decode cX2_dropSecondReading 53 = .ok (.putfield 44, 3) := by decide +kernel
theorem dX2_dropSecondReading_56 : decode cX2_dropSecondReading 56 = .ok (.return_, 1) := by decide +kernel
theorem dX2_fitWear_0 : decode cX2_fitWear 0 = .ok (.lconst 0, 1) := by decide +kernel
theorem dX2_fitWear_1 : decode cX2_fitWear 1 = .ok (.lstore_n 2, 1) := by decide +kernel
theorem dX2_fitWear_2 : decode cX2_fitWear 2 = .ok (.lconst 0, 1) := by decide +kernel
theorem dX2_fitWear_3 : decode cX2_fitWear 3 = .ok (.lstore 4, 2) := by decide +kernel
theorem dX2_fitWear_5 : decode cX2_fitWear 5 = .ok (.lconst 0, 1) := by decide +kernel
theorem dX2_fitWear_6 : decode cX2_fitWear 6 = .ok (.lstore 6, 2) := by decide +kernel
theorem dX2_fitWear_8 : decode cX2_fitWear 8 = .ok (.lconst 0, 1) := by decide +kernel
theorem dX2_fitWear_9 : decode cX2_fitWear 9 = .ok (.lstore 8, 2) := by decide +kernel
theorem dX2_fitWear_11 : decode cX2_fitWear 11 = .ok (.iconst 0, 1) := by decide +kernel
theorem dX2_fitWear_12 : decode cX2_fitWear 12 = .ok (.istore 10, 2) := by decide +kernel
theorem dX2_fitWear_14 : decode cX2_fitWear 14 = .ok (.iload 10, 2) := by decide +kernel
theorem dX2_fitWear_16 : decode cX2_fitWear 16 = .ok (.aload_n 0, 1) := by decide +kernel
theorem dX2_fitWear_17 : decode cX2_fitWear 17 = .ok (.getfield 44, 3) := by decide +kernel
theorem dX2_fitWear_20 : decode cX2_fitWear 20 = .ok (.if_icmp .ge 65, 3) := by decide +kernel
theorem dX2_fitWear_23 : decode cX2_fitWear 23 = .ok (.aload_n 0, 1) := by decide +kernel
theorem dX2_fitWear_24 : decode cX2_fitWear 24 = .ok (.getfield 9, 3) := by decide +kernel
theorem dX2_fitWear_27 : decode cX2_fitWear 27 = .ok (.iload 10, 2) := by decide +kernel
theorem dX2_fitWear_29 : decode cX2_fitWear 29 = .ok (.invokestatic 61, 3) := by decide +kernel
theorem dX2_fitWear_32 : decode cX2_fitWear 32 = .ok (.i2l, 1) := by decide +kernel
theorem dX2_fitWear_33 : decode cX2_fitWear 33 = .ok (.lstore 11, 2) := by decide +kernel
theorem dX2_fitWear_35 : decode cX2_fitWear 35 = .ok (.aload_n 0, 1) := by decide +kernel
theorem dX2_fitWear_36 : decode cX2_fitWear 36 = .ok (.getfield 15, 3) := by decide +kernel
theorem dX2_fitWear_39 : decode cX2_fitWear 39 = .ok (.iload 10, 2) := by decide +kernel
theorem dX2_fitWear_41 : decode cX2_fitWear 41 = .ok (.invokestatic 61, 3) := by decide +kernel
theorem dX2_fitWear_44 : decode cX2_fitWear 44 = .ok (.i2l, 1) := by decide +kernel
theorem dX2_fitWear_45 : decode cX2_fitWear 45 = .ok (.lstore 13, 2) := by decide +kernel
theorem dX2_fitWear_47 : decode cX2_fitWear 47 = .ok (.lload_n 2, 1) := by decide +kernel
theorem dX2_fitWear_48 : decode cX2_fitWear 48 = .ok (.lload 11, 2) := by decide +kernel
theorem dX2_fitWear_50 : decode cX2_fitWear 50 = .ok (.ladd, 1) := by decide +kernel
theorem dX2_fitWear_51 : decode cX2_fitWear 51 = .ok (.lstore_n 2, 1) := by decide +kernel
theorem dX2_fitWear_52 : decode cX2_fitWear 52 = .ok (.lload 4, 2) := by decide +kernel
theorem dX2_fitWear_54 : decode cX2_fitWear 54 = .ok (.lload 13, 2) := by decide +kernel
theorem dX2_fitWear_56 : decode cX2_fitWear 56 = .ok (.ladd, 1) := by decide +kernel
theorem dX2_fitWear_57 : decode cX2_fitWear 57 = .ok (.lstore 4, 2) := by decide +kernel
theorem dX2_fitWear_59 : decode cX2_fitWear 59 = .ok (.lload 6, 2) := by decide +kernel
theorem dX2_fitWear_61 : decode cX2_fitWear 61 = .ok (.lload 11, 2) := by decide +kernel
theorem dX2_fitWear_63 : decode cX2_fitWear 63 = .ok (.lload 11, 2) := by decide +kernel
theorem dX2_fitWear_65 : decode cX2_fitWear 65 = .ok (.lmul, 1) := by decide +kernel
theorem dX2_fitWear_66 : decode cX2_fitWear 66 = .ok (.ladd, 1) := by decide +kernel
theorem dX2_fitWear_67 : decode cX2_fitWear 67 = .ok (.lstore 6, 2) := by decide +kernel
theorem dX2_fitWear_69 : decode cX2_fitWear 69 = .ok (.lload 8, 2) := by decide +kernel
theorem dX2_fitWear_71 : decode cX2_fitWear 71 = .ok (.lload 11, 2) := by decide +kernel
theorem dX2_fitWear_73 : decode cX2_fitWear 73 = .ok (.lload 13, 2) := by decide +kernel
theorem dX2_fitWear_75 : decode cX2_fitWear 75 = .ok (.lmul, 1) := by decide +kernel
theorem dX2_fitWear_76 : decode cX2_fitWear 76 = .ok (.ladd, 1) := by decide +kernel
theorem dX2_fitWear_77 : decode cX2_fitWear 77 = .ok (.lstore 8, 2) := by decide +kernel
theorem dX2_fitWear_79 : decode cX2_fitWear 79 = .ok (.iinc 10 1, 3) := by decide +kernel
theorem dX2_fitWear_82 : decode cX2_fitWear 82 = .ok (.goto (-68), 3) := by decide +kernel
theorem dX2_fitWear_85 : decode cX2_fitWear 85 = .ok (.aload_n 0, 1) := by decide +kernel
theorem dX2_fitWear_86 : decode cX2_fitWear 86 = .ok (.getfield 44, 3) := by decide +kernel
theorem dX2_fitWear_89 : decode cX2_fitWear 89 = .ok (.i2l, 1) := by decide +kernel
theorem dX2_fitWear_90 : decode cX2_fitWear 90 = .ok (.lload 6, 2) := by decide +kernel
theorem dX2_fitWear_92 : decode cX2_fitWear 92 = .ok (.lmul, 1) := by decide +kernel
theorem dX2_fitWear_93 : decode cX2_fitWear 93 = .ok (.lload_n 2, 1) := by decide +kernel
theorem dX2_fitWear_94 : decode cX2_fitWear 94 = .ok (.lload_n 2, 1) := by decide +kernel
theorem dX2_fitWear_95 : decode cX2_fitWear 95 = .ok (.lmul, 1) := by decide +kernel
theorem dX2_fitWear_96 : decode cX2_fitWear 96 = .ok (.lsub, 1) := by decide +kernel
theorem dX2_fitWear_97 : decode cX2_fitWear 97 = .ok (.lstore 10, 2) := by decide +kernel
theorem dX2_fitWear_99 : decode cX2_fitWear 99 = .ok (.lload 10, 2) := by decide +kernel
theorem dX2_fitWear_101 : decode cX2_fitWear 101 = .ok (.lconst 0, 1) := by decide +kernel
theorem dX2_fitWear_102 : decode cX2_fitWear 102 = .ok (.lcmp, 1) := by decide +kernel
theorem dX2_fitWear_103 : decode cX2_fitWear 103 = .ok (.ifCond .le 28, 3) := by decide +kernel
theorem dX2_fitWear_106 : decode cX2_fitWear 106 = .ok (.aload_n 0, 1) := by decide +kernel
theorem dX2_fitWear_107 : decode cX2_fitWear 107 = .ok (.getfield 21, 3) := by decide +kernel
theorem dX2_fitWear_110 : decode cX2_fitWear 110 = .ok (.lload_n 2, 1) := by decide +kernel
theorem dX2_fitWear_111 : decode cX2_fitWear 111 = .ok (.lload 4, 2) := by decide +kernel
theorem dX2_fitWear_113 : decode cX2_fitWear 113 = .ok (.lmul, 1) := by decide +kernel
theorem dX2_fitWear_114 : decode cX2_fitWear 114 = .ok (.aload_n 0, 1) := by decide +kernel
theorem dX2_fitWear_115 : decode cX2_fitWear 115 = .ok (.getfield 44, 3) := by decide +kernel
theorem dX2_fitWear_118 : decode cX2_fitWear 118 = .ok (.i2l, 1) := by decide +kernel
theorem dX2_fitWear_119 : decode cX2_fitWear 119 = .ok (.lload 8, 2) := by decide +kernel
theorem dX2_fitWear_121 : decode cX2_fitWear 121 = .ok (.lmul, 1) := by decide +kernel
theorem dX2_fitWear_122 : decode cX2_fitWear 122 = .ok (.lsub, 1) := by decide +kernel
theorem dX2_fitWear_123 : decode cX2_fitWear 123 = .ok (.lload 10, 2) := by decide +kernel
theorem dX2_fitWear_125 : decode cX2_fitWear 125 = .ok (.invokevirtual 65, 3) := by decide +kernel
theorem dX2_fitWear_128 : decode cX2_fitWear 128 = .ok (.goto 15, 3) := by decide +kernel
theorem dX2_fitWear_131 : decode cX2_fitWear 131 = .ok (.aload_n 0, 1) := by decide +kernel
theorem dX2_fitWear_132 : decode cX2_fitWear 132 = .ok (.getfield 21, 3) := by decide +kernel
theorem dX2_fitWear_135 : decode cX2_fitWear 135 = .ok (.iload_n 1, 1) := by decide +kernel
theorem dX2_fitWear_136 : decode cX2_fitWear 136 = .ok (.i2l, 1) := by decide +kernel
theorem dX2_fitWear_137 : decode cX2_fitWear 137 = .ok (.ldc2_w 69, 3) := by decide +kernel
theorem dX2_fitWear_140 : decode cX2_fitWear 140 = .ok (.invokevirtual 65, 3) := by decide +kernel
theorem dX2_fitWear_143 : decode cX2_fitWear 143 = .ok (.return_, 1) := by decide +kernel
theorem dX2_depthAfter_0 : decode cX2_depthAfter 0 = .ok (.aload_n 0, 1) := by decide +kernel
theorem dX2_depthAfter_1 : decode cX2_depthAfter 1 = .ok (.getfield 21, 3) := by decide +kernel
theorem dX2_depthAfter_4 : decode cX2_depthAfter 4 = .ok (.aload_n 0, 1) := by decide +kernel
theorem dX2_depthAfter_5 : decode cX2_depthAfter 5 = .ok (.getfield 15, 3) := by decide +kernel
theorem dX2_depthAfter_8 : decode cX2_depthAfter 8 = .ok (.aload_n 0, 1) := by decide +kernel
theorem dX2_depthAfter_9 : decode cX2_depthAfter 9 = .ok (.getfield 44, 3) := by decide +kernel
theorem dX2_depthAfter_12 : decode cX2_depthAfter 12 = .ok (.iconst 1, 1) := by decide +kernel
theorem dX2_depthAfter_13 : decode cX2_depthAfter 13 = .ok (.isub, 1) := by decide +kernel
theorem dX2_depthAfter_14 : decode cX2_depthAfter 14 = .ok (.invokestatic 61, 3) := by decide +kernel
theorem dX2_depthAfter_17 : decode cX2_depthAfter 17 = .ok (.aload_n 0, 1) := by decide +kernel
theorem dX2_depthAfter_18 : decode cX2_depthAfter 18 = .ok (.invokevirtual 71, 3) := by decide +kernel
theorem dX2_depthAfter_21 : decode cX2_depthAfter 21 = .ok (.iload_n 1, 1) := by decide +kernel
theorem dX2_depthAfter_22 : decode cX2_depthAfter 22 = .ok (.iadd, 1) := by decide +kernel
theorem dX2_depthAfter_23 : decode cX2_depthAfter 23 = .ok (.invokevirtual 75, 3) := by decide +kernel
theorem dX2_depthAfter_26 : decode cX2_depthAfter 26 = .ok (.ireturn, 1) := by decide +kernel
theorem dX2_endFor_0 : decode cX2_endFor 0 = .ok (.aload_n 0, 1) := by decide +kernel
theorem dX2_endFor_1 : decode cX2_endFor 1 = .ok (.getfield 21, 3) := by decide +kernel
theorem dX2_endFor_4 : decode cX2_endFor 4 = .ok (.aload_n 0, 1) := by decide +kernel
theorem dX2_endFor_5 : decode cX2_endFor 5 = .ok (.getfield 15, 3) := by decide +kernel
theorem dX2_endFor_8 : decode cX2_endFor 8 = .ok (.aload_n 0, 1) := by decide +kernel
theorem dX2_endFor_9 : decode cX2_endFor 9 = .ok (.getfield 44, 3) := by decide +kernel
theorem dX2_endFor_12 : decode cX2_endFor 12 = .ok (.iconst 1, 1) := by decide +kernel
theorem dX2_endFor_13 : decode cX2_endFor 13 = .ok (.isub, 1) := by decide +kernel
theorem dX2_endFor_14 : decode cX2_endFor 14 = .ok (.invokestatic 61, 3) := by decide +kernel
theorem dX2_endFor_17 : decode cX2_endFor 17 = .ok (.aload_n 0, 1) := by decide +kernel
theorem dX2_endFor_18 : decode cX2_endFor 18 = .ok (.invokevirtual 71, 3) := by decide +kernel
theorem dX2_endFor_21 : decode cX2_endFor 21 = .ok (.iload_n 1, 1) := by decide +kernel
theorem dX2_endFor_22 : decode cX2_endFor 22 = .ok (.invokevirtual 79, 3) := by decide +kernel
theorem dX2_endFor_25 : decode cX2_endFor 25 = .ok (.ireturn, 1) := by decide +kernel
theorem dX2_sinceRead_0 : decode cX2_sinceRead 0 = .ok (.aload_n 0, 1) := by decide +kernel
theorem dX2_sinceRead_1 : decode cX2_sinceRead 1 = .ok (.getfield 41, 3) := by decide +kernel
theorem dX2_sinceRead_4 : decode cX2_sinceRead 4 = .ok (.aload_n 0, 1) := by decide +kernel
theorem dX2_sinceRead_5 : decode cX2_sinceRead 5 = .ok (.getfield 9, 3) := by decide +kernel
theorem dX2_sinceRead_8 : decode cX2_sinceRead 8 = .ok (.aload_n 0, 1) := by decide +kernel
theorem dX2_sinceRead_9 : decode cX2_sinceRead 9 = .ok (.getfield 44, 3) := by decide +kernel
theorem dX2_sinceRead_12 : decode cX2_sinceRead 12 = .ok (.iconst 1, 1) := by decide +kernel
theorem dX2_sinceRead_13 : decode cX2_sinceRead 13 = .ok (.isub, 1) := by decide +kernel
theorem dX2_sinceRead_14 : decode cX2_sinceRead 14 = .ok (.invokestatic 61, 3) := by decide +kernel
theorem dX2_sinceRead_17 : decode cX2_sinceRead 17 = .ok (.isub, 1) := by decide +kernel
theorem dX2_sinceRead_18 : decode cX2_sinceRead 18 = .ok (.ireturn, 1) := by decide +kernel
