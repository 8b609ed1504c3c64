theorem dX3_init_0 : decode cX3_init 0 = .ok (.aload_n 0, 1) := by decide +kernel
theorem dX3_init_1 : decode cX3_init 1 = .ok (.invokespecial 3, 3) := by decide +kernel
theorem dX3_init_4 : decode cX3_init 4 = .ok (.aload_n 0, 1) := by decide +kernel
theorem dX3_init_5 : decode cX3_init 5 = .ok (.bipush 7, 2) := by decide +kernel
theorem dX3_init_7 : decode cX3_init 7 = .ok (.newarray .int, 2) := by decide +kernel
theorem dX3_init_9 : decode cX3_init 9 = .ok (.putfield 9, 3) := by decide +kernel
theorem dX3_init_12 : decode cX3_init 12 = .ok (.aload_n 0, 1) := by decide +kernel
theorem dX3_init_13 : decode cX3_init 13 = .ok (.bipush 7, 2) := by decide +kernel
theorem dX3_init_15 : decode cX3_init 15 = .ok (.anewarray 15, 3) := by decide +kernel
theorem dX3_init_18 : decode cX3_init 18 = .ok (.putfield 17, 3) := by decide +kernel
theorem dX3_init_21 : decode cX3_init 21 = .ok (.aload_n 0, 1) := by decide +kernel
theorem dX3_init_22 : decode cX3_init 22 = .ok (.iload_n 1, 1) := by decide +kernel
theorem dX3_init_23 : decode cX3_init 23 = .ok (.putfield 21, 3) := by decide +kernel
theorem dX3_init_26 : decode cX3_init 26 = .ok (.return_, 1) := by decide +kernel
theorem dX3_hasPlace_0 : decode cX3_hasPlace 0 = .ok (.iload_n 1, 1) := by decide +kernel
theorem dX3_hasPlace_1 : decode cX3_hasPlace 1 = .ok (.ifCond .lt 21, 3) := by decide +kernel
theorem dX3_hasPlace_4 : decode cX3_hasPlace 4 = .ok (.iload_n 1, 1) := by decide +kernel
theorem dX3_hasPlace_5 : decode cX3_hasPlace 5 = .ok (.aload_n 0, 1) := by decide +kernel
theorem dX3_hasPlace_6 : decode cX3_hasPlace 6 = .ok (.getfield 25, 3) := by decide +kernel
theorem dX3_hasPlace_9 : decode cX3_hasPlace 9 = .ok (.if_icmp .ge 13, 3) := by decide +kernel
theorem dX3_hasPlace_12 : decode cX3_hasPlace 12 = .ok (.iload_n 1, 1) := by decide +kernel
theorem dX3_hasPlace_13 : decode cX3_hasPlace 13 = .ok (.bipush 7, 2) := by decide +kernel
theorem dX3_hasPlace_15 : decode cX3_hasPlace 15 = .ok (.if_icmp .ge 7, 3) := by decide +kernel
theorem dX3_hasPlace_18 : decode cX3_hasPlace 18 = .ok (.iconst 1, 1) := by decide +kernel
theorem dX3_hasPlace_19 : decode cX3_hasPlace 19 = .ok (.goto 4, 3) := by decide +kernel
theorem dX3_hasPlace_22 : decode cX3_hasPlace 22 = .ok (.iconst 0, 1) := by decide +kernel
theorem dX3_hasPlace_23 : decode cX3_hasPlace 23 = .ok (.ireturn, 1) := by decide +kernel
theorem dX3_isFull_0 : decode cX3_isFull 0 = .ok (.aload_n 0, 1) := by decide +kernel
theorem dX3_isFull_1 : decode cX3_isFull 1 = .ok (.getfield 25, 3) := by decide +kernel
theorem dX3_isFull_4 : decode cX3_isFull 4 = .ok (.bipush 7, 2) := by decide +kernel
theorem dX3_isFull_6 : decode cX3_isFull 6 = .ok (.if_icmp .lt 7, 3) := by decide +kernel
theorem dX3_isFull_9 : decode cX3_isFull 9 = .ok (.iconst 1, 1) := by decide +kernel
theorem dX3_isFull_10 : decode cX3_isFull 10 = .ok (.goto 4, 3) := by decide +kernel
theorem dX3_isFull_13 : decode cX3_isFull 13 = .ok (.iconst 0, 1) := by decide +kernel
theorem dX3_isFull_14 : decode cX3_isFull 14 = .ok (.ireturn, 1) := by decide +kernel
theorem dX3_addPlace_0 : decode cX3_addPlace 0 = .ok (.aload_n 0, 1) := by decide +kernel
theorem dX3_addPlace_1 : decode cX3_addPlace 1 = .ok (.getfield 25, 3) := by decide +kernel
theorem dX3_addPlace_4 : decode cX3_addPlace 4 = .ok (.istore_n 2, 1) := by decide +kernel
theorem dX3_addPlace_5 : decode cX3_addPlace 5 = .ok (.aload_n 0, 1) := by decide +kernel
theorem dX3_addPlace_6 : decode cX3_addPlace 6 = .ok (.getfield 9, 3) := by decide +kernel
theorem dX3_addPlace_9 : decode cX3_addPlace 9 = .ok (.iload_n 2, 1) := by decide +kernel
theorem dX3_addPlace_10 : decode cX3_addPlace 10 = .ok (.iload_n 1, 1) := by decide +kernel
theorem dX3_addPlace_11 : decode cX3_addPlace 11 = .ok (.invokestatic 28, 3) := by decide +kernel
theorem dX3_addPlace_14 : decode cX3_addPlace 14 = .ok (.aload_n 0, 1) := by decide +kernel
theorem dX3_addPlace_15 : decode cX3_addPlace 15 = .ok (.iload_n 2, 1) := by decide +kernel
theorem dX3_addPlace_16 : decode cX3_addPlace 16 = .ok (.iconst 1, 1) := by decide +kernel
theorem dX3_addPlace_17 : decode cX3_addPlace 17 = .ok (.iadd, 1) := by decide +kernel
theorem dX3_addPlace_18 : decode cX3_addPlace 18 = .ok (.putfield 25, 3) := by decide +kernel
theorem dX3_addPlace_21 : decode cX3_addPlace 21 = .ok (.iload_n 2, 1) := by decide +kernel
theorem dX3_addPlace_22 : decode cX3_addPlace 22 = .ok (.ireturn, 1) := by decide +kernel
theorem dX3_kindOf_0 : decode cX3_kindOf 0 = .ok (.aload_n 0, 1) := by decide +kernel
theorem dX3_kindOf_1 : decode cX3_kindOf 1 = .ok (.iload_n 1, 1) := by decide +kernel
theorem dX3_kindOf_2 : decode cX3_kindOf 2 = .ok (.invokevirtual 32, 3) := by decide +kernel
theorem dX3_kindOf_5 : decode cX3_kindOf 5 = .ok (.ifCond .eq 14, 3) := by decide +kernel
theorem dX3_kindOf_8 : decode cX3_kindOf 8 = .ok (.aload_n 0, 1) := by decide +kernel
theorem dX3_kindOf_9 : decode cX3_kindOf 9 = .ok (.getfield 9, 3) := by decide +kernel
theorem dX3_kindOf_12 : decode cX3_kindOf 12 = .ok (.iload_n 1, 1) := by decide +kernel
theorem dX3_kindOf_13 : decode cX3_kindOf 13 = .ok (.invokestatic 36, 3) := by decide +kernel
theorem dX3_kindOf_16 : decode cX3_kindOf 16 = .ok (.goto 5, 3) := by decide +kernel
theorem dX3_kindOf_19 : decode cX3_kindOf 19 = .ok (.bipush (-9), 2) := by decide +kernel
theorem dX3_kindOf_21 : decode cX3_kindOf 21 = .ok (.ireturn, 1) := by decide +kernel
theorem dX3_tyreOn_0 : decode cX3_tyreOn 0 = .ok (.aload_n 0, 1) := by decide +kernel
theorem dX3_tyreOn_1 : decode cX3_tyreOn 1 = .ok (.iload_n 1, 1) := by decide +kernel
theorem dX3_tyreOn_2 : decode cX3_tyreOn 2 = .ok (.invokevirtual 32, 3) := by decide +kernel
theorem dX3_tyreOn_5 : decode cX3_tyreOn 5 = .ok (.ifCond .eq 12, 3) := by decide +kernel
theorem dX3_tyreOn_8 : decode cX3_tyreOn 8 = .ok (.aload_n 0, 1) := by decide +kernel
theorem dX3_tyreOn_9 : decode cX3_tyreOn 9 = .ok (.getfield 17, 3) := by decide +kernel
theorem dX3_tyreOn_12 : decode cX3_tyreOn 12 = .ok (.iload_n 1, 1) := by decide +kernel
theorem dX3_tyreOn_13 : decode cX3_tyreOn 13 = .ok (.aaload, 1) := by decide +kernel
theorem dX3_tyreOn_14 : decode cX3_tyreOn 14 = .ok (.goto 4, 3) := by decide +kernel
theorem dX3_tyreOn_17 : decode cX3_tyreOn 17 = .ok (.aconst_null, 1) := by decide +kernel
theorem dX3_tyreOn_18 : decode cX3_tyreOn 18 = .ok (.areturn, 1) := by decide +kernel
theorem dX3_lay_0 : decode cX3_lay 0 = .ok (.aload_n 0, 1) := by decide +kernel
theorem dX3_lay_1 : decode cX3_lay 1 = .ok (.iload_n 1, 1) := by decide +kernel
theorem dX3_lay_2 : decode cX3_lay 2 = .ok (.invokevirtual 32, 3) := by decide +kernel
theorem dX3_lay_5 : decode cX3_lay 5 = .ok (.ifCond .eq 10, 3) := by decide +kernel
theorem dX3_lay_8 : decode cX3_lay 8 = .ok (.aload_n 0, 1) := by decide +kernel
theorem dX3_lay_9 : decode cX3_lay 9 = .ok (.getfield 17, 3) := by decide +kernel
theorem dX3_lay_12 : decode cX3_lay 12 = .ok (.iload_n 1, 1) := by decide +kernel
theorem dX3_lay_13 : decode cX3_lay 13 = .ok (.aload_n 2, 1) := by decide +kernel
theorem dX3_lay_14 : decode cX3_lay 14 = .ok (.aastore, 1) := by decide +kernel
theorem dX3_lay_15 : decode cX3_lay 15 = .ok (.return_, 1) := by decide +kernel
theorem dX3_spot_0 : decode cX3_spot 0 = .ok (.bipush 10, 2) := by decide +kernel
theorem dX3_spot_2 : decode cX3_spot 2 = .ok (.aload_n 0, 1) := by decide +kernel
theorem dX3_spot_3 : decode cX3_spot 3 = .ok (.getfield 21, 3) := by decide +kernel
theorem dX3_spot_6 : decode cX3_spot 6 = .ok (.imul, 1) := by decide +kernel
theorem dX3_spot_7 : decode cX3_spot 7 = .ok (.iload_n 1, 1) := by decide +kernel
theorem dX3_spot_8 : decode cX3_spot 8 = .ok (.iadd, 1) := by decide +kernel
theorem dX3_spot_9 : decode cX3_spot 9 = .ok (.ireturn, 1) := by decide +kernel
theorem dX3_pairOf_0 : decode cX3_pairOf 0 = .ok (.aload_n 0, 1) := by decide +kernel
theorem dX3_pairOf_1 : decode cX3_pairOf 1 = .ok (.iload_n 1, 1) := by decide +kernel
theorem dX3_pairOf_2 : decode cX3_pairOf 2 = .ok (.invokevirtual 40, 3) := by decide +kernel
theorem dX3_pairOf_5 : decode cX3_pairOf 5 = .ok (.iconst 2, 1) := by decide +kernel
theorem dX3_pairOf_6 : decode cX3_pairOf 6 = .ok (.if_icmp .eq 6, 3) := by decide +kernel
theorem dX3_pairOf_9 : decode cX3_pairOf 9 = .ok (.bipush (-9), 2) := by decide +kernel
theorem dX3_pairOf_11 : decode cX3_pairOf 11 = .ok (.ireturn, 1) := by decide +kernel
theorem dX3_pairOf_12 : decode cX3_pairOf 12 = .ok (.bipush (-9), 2) := by decide +kernel
theorem dX3_pairOf_14 : decode cX3_pairOf 14 = .ok (.istore_n 2, 1) := by decide +kernel
theorem dX3_pairOf_15 : decode cX3_pairOf 15 = .ok (.iconst 0, 1) := by decide +kernel
theorem dX3_pairOf_16 : decode cX3_pairOf 16 = .ok (.istore_n 3, 1) := by decide +kernel
theorem dX3_pairOf_17 : decode cX3_pairOf 17 = .ok (.iload_n 3, 1) := by decide +kernel
theorem dX3_pairOf_18 : decode cX3_pairOf 18 = .ok (.aload_n 0, 1) := by decide +kernel
theorem dX3_pairOf_19 : decode cX3_pairOf 19 = .ok (.getfield 25, 3) := by decide +kernel
theorem dX3_pairOf_22 : decode cX3_pairOf 22 = .ok (.if_icmp .ge 49, 3) := by decide +kernel
theorem dX3_pairOf_25 : decode cX3_pairOf 25 = .ok (.aload_n 0, 1) := by decide +kernel
theorem dX3_pairOf_26 : decode cX3_pairOf 26 = .ok (.iload_n 3, 1) := by decide +kernel
theorem dX3_pairOf_27 : decode cX3_pairOf 27 = .ok (.invokevirtual 40, 3) := by decide +kernel
theorem dX3_pairOf_30 : decode cX3_pairOf 30 = .ok (.iconst 2, 1) := by decide +kernel
theorem dX3_pairOf_31 : decode cX3_pairOf 31 = .ok (.if_icmp .eq 6, 3) := by decide +kernel
theorem dX3_pairOf_34 : decode cX3_pairOf 34 = .ok (.goto 31, 3) := by decide +kernel
theorem dX3_pairOf_37 : decode cX3_pairOf 37 = .ok (.iload_n 2, 1) := by decide +kernel
theorem dX3_pairOf_38 : decode cX3_pairOf 38 = .ok (.bipush (-9), 2) := by decide +kernel
theorem dX3_pairOf_40 : decode cX3_pairOf 40 = .ok (.if_icmp .ne 8, 3) := by decide +kernel
theorem dX3_pairOf_43 : decode cX3_pairOf 43 = .ok (.iload_n 3, 1) := by decide +kernel
theorem dX3_pairOf_44 : decode cX3_pairOf 44 = .ok (.istore_n 2, 1) := by decide +kernel
theorem dX3_pairOf_45 : decode cX3_pairOf 45 = .ok (.goto 20, 3) := by decide +kernel
theorem dX3_pairOf_48 : decode cX3_pairOf 48 = .ok (.iload_n 2, 1) := by decide +kernel
theorem dX3_pairOf_49 : decode cX3_pairOf 49 = .ok (.iload_n 1, 1) := by decide +kernel
theorem dX3_pairOf_50 : decode cX3_pairOf 50 = .ok (.if_icmp .ne 5, 3) := by decide +kernel
theorem dX3_pairOf_53 : decode cX3_pairOf 53 = .ok (.iload_n 3, 1) := by decide +kernel
theorem dX3_pairOf_54 : decode cX3_pairOf 54 = .ok (.ireturn, 1) := by decide +kernel
theorem dX3_pairOf_55 : decode cX3_pairOf 55 = .ok (.iload_n 3, 1) := by decide +kernel
theorem dX3_pairOf_56 : decode cX3_pairOf 56 = .ok (.iload_n 1, 1) := by decide +kernel
theorem dX3_pairOf_57 : decode cX3_pairOf 57 = .ok (.if_icmp .ne 5, 3) := by decide +kernel
theorem dX3_pairOf_60 : decode cX3_pairOf 60 = .ok (.iload_n 2, 1) := by decide +kernel
theorem dX3_pairOf_61 : decode cX3_pairOf 61 = .ok (.ireturn, 1) := by decide +kernel
theorem dX3_pairOf_62 : decode cX3_pairOf 62 = .ok (.bipush (-9), 2) := by decide +kernel
theorem dX3_pairOf_64 : decode cX3_pairOf 64 = .ok (.istore_n 2, 1) := by decide +kernel
theorem dX3_pairOf_65 : decode cX3_pairOf 65 = .ok (.iinc 3 1, 3) := by decide +kernel
theorem dX3_pairOf_68 : decode cX3_pairOf 68 = .ok (.goto (-51), 3) := by decide +kernel
theorem dX3_pairOf_71 : decode cX3_pairOf 71 = .ok (.bipush (-9), 2) := by decide +kernel
theorem dX3_pairOf_73 : decode cX3_pairOf 73 = .ok (.ireturn, 1) := by decide +kernel
theorem dX3_whyUnfit_0 : decode cX3_whyUnfit 0 = .ok (.iconst 0, 1) := by decide +kernel
theorem dX3_whyUnfit_1 : decode cX3_whyUnfit 1 = .ok (.istore_n 3, 1) := by decide +kernel
theorem dX3_whyUnfit_2 : decode cX3_whyUnfit 2 = .ok (.iload_n 3, 1) := by decide +kernel
theorem dX3_whyUnfit_3 : decode cX3_whyUnfit 3 = .ok (.aload_n 0, 1) := by decide +kernel
theorem dX3_whyUnfit_4 : decode cX3_whyUnfit 4 = .ok (.getfield 25, 3) := by decide +kernel
theorem dX3_whyUnfit_7 : decode cX3_whyUnfit 7 = .ok (.if_icmp .ge 31, 3) := by decide +kernel
theorem dX3_whyUnfit_10 : decode cX3_whyUnfit 10 = .ok (.aload_n 0, 1) := by decide +kernel
theorem dX3_whyUnfit_11 : decode cX3_whyUnfit 11 = .ok (.iload_n 3, 1) := by decide +kernel
theorem dX3_whyUnfit_12 : decode cX3_whyUnfit 12 = .ok (.aload_n 1, 1) := by decide +kernel
theorem dX3_whyUnfit_13 : decode cX3_whyUnfit 13 = .ok (.iload_n 2, 1) := by decide +kernel
theorem dX3_whyUnfit_14 : decode cX3_whyUnfit 14 = .ok (.invokevirtual 44, 3) := by decide +kernel
theorem dX3_whyUnfit_17 : decode cX3_whyUnfit 17 = .ok (.istore 4, 2) := by decide +kernel
theorem dX3_whyUnfit_19 : decode cX3_whyUnfit 19 = .ok (.iload 4, 2) := by decide +kernel
theorem dX3_whyUnfit_21 : decode cX3_whyUnfit 21 = .ok (.ifCond .eq 11, 3) := by decide +kernel
theorem dX3_whyUnfit_24 : decode cX3_whyUnfit 24 = .ok (.bipush 10, 2) := by decide +kernel
theorem dX3_whyUnfit_26 : decode cX3_whyUnfit 26 = .ok (.iload_n 3, 1) := by decide +kernel
theorem dX3_whyUnfit_27 : decode cX3_whyUnfit 27 = .ok (.imul, 1) := by decide +kernel
theorem dX3_whyUnfit_28 : decode cX3_whyUnfit 28 = .ok (.iload 4, 2) := by decide +kernel
theorem dX3_whyUnfit_30 : decode cX3_whyUnfit 30 = .ok (.iadd, 1) := by decide +kernel
theorem dX3_whyUnfit_31 : decode cX3_whyUnfit 31 = .ok (.ireturn, 1) := by decide +kernel
theorem dX3_whyUnfit_32 : decode cX3_whyUnfit 32 = .ok (.iinc 3 1, 3) := by decide +kernel
theorem dX3_whyUnfit_35 : decode cX3_whyUnfit 35 = .ok (.goto (-33), 3) := by decide +kernel
theorem dX3_whyUnfit_38 : decode cX3_whyUnfit 38 = .ok (.bipush (-9), 2) := by decide +kernel
theorem dX3_whyUnfit_40 : decode cX3_whyUnfit 40 = .ok (.ireturn, 1) := by decide +kernel
theorem dX3_flawOn_0 : decode cX3_flawOn 0 = .ok (.aload_n 0, 1) := by decide +kernel
theorem dX3_flawOn_1 : decode cX3_flawOn 1 = .ok (.iload_n 1, 1) := by decide +kernel
theorem dX3_flawOn_2 : decode cX3_flawOn 2 = .ok (.invokevirtual 40, 3) := by decide +kernel
theorem dX3_flawOn_5 : decode cX3_flawOn 5 = .ok (.istore 4, 2) := by decide +kernel
theorem dX3_flawOn_7 : decode cX3_flawOn 7 = .ok (.aload_n 0, 1) := by decide +kernel
theorem dX3_flawOn_8 : decode cX3_flawOn 8 = .ok (.iload_n 1, 1) := by decide +kernel
theorem dX3_flawOn_9 : decode cX3_flawOn 9 = .ok (.invokevirtual 48, 3) := by decide +kernel
theorem dX3_flawOn_12 : decode cX3_flawOn 12 = .ok (.astore 5, 2) := by decide +kernel
theorem dX3_flawOn_14 : decode cX3_flawOn 14 = .ok (.aload 5, 2) := by decide +kernel
theorem dX3_flawOn_16 : decode cX3_flawOn 16 = .ok (.ifnonnull 15, 3) := by decide +kernel
theorem dX3_flawOn_19 : decode cX3_flawOn 19 = .ok (.iload 4, 2) := by decide +kernel
theorem dX3_flawOn_21 : decode cX3_flawOn 21 = .ok (.iconst 4, 1) := by decide +kernel
theorem dX3_flawOn_22 : decode cX3_flawOn 22 = .ok (.if_icmp .ne 7, 3) := by decide +kernel
theorem dX3_flawOn_25 : decode cX3_flawOn 25 = .ok (.iconst 0, 1) := by decide +kernel
theorem dX3_flawOn_26 : decode cX3_flawOn 26 = .ok (.goto 4, 3) := by decide +kernel
theorem dX3_flawOn_29 : decode cX3_flawOn 29 = .ok (.iconst 1, 1) := by decide +kernel
theorem dX3_flawOn_30 : decode cX3_flawOn 30 = .ok (.ireturn, 1) := by decide +kernel
theorem dX3_flawOn_31 : decode cX3_flawOn 31 = .ok (.iload 4, 2) := by decide +kernel
theorem dX3_flawOn_33 : decode cX3_flawOn 33 = .ok (.ifCond .ne 13, 3) := by decide +kernel
theorem dX3_flawOn_36 : decode cX3_flawOn 36 = .ok (.aload 5, 2) := by decide +kernel
theorem dX3_flawOn_38 : decode cX3_flawOn 38 = .ok (.getfield 52, 3) := by decide +kernel
theorem dX3_flawOn_41 : decode cX3_flawOn 41 = .ok (.ifCond .le 5, 3) := by decide +kernel
theorem dX3_flawOn_44 : decode cX3_flawOn 44 = .ok (.iconst 2, 1) := by decide +kernel
theorem dX3_flawOn_45 : decode cX3_flawOn 45 = .ok (.ireturn, 1) := by decide +kernel
theorem dX3_flawOn_46 : decode cX3_flawOn 46 = .ok (.aload 5, 2) := by decide +kernel
theorem dX3_flawOn_48 : decode cX3_flawOn 48 = .ok (.iconst 0, 1) := by decide +kernel
theorem dX3_flawOn_49 : decode cX3_flawOn 49 = .ok (.invokevirtual 55, 3) := by decide +kernel
theorem dX3_flawOn_52 : decode cX3_flawOn 52 = .ok (.istore 6, 2) := by decide +kernel
theorem dX3_flawOn_54 : decode cX3_flawOn 54 = .ok (.iload 6, 2) := by decide +kernel
theorem dX3_flawOn_56 : decode cX3_flawOn 56 = .ok (.aload_n 2, 1) := by decide +kernel
theorem dX3_flawOn_57 : decode cX3_flawOn 57 = .ok (.iload 4, 2) := by decide +kernel
theorem dX3_flawOn_59 : decode cX3_flawOn 59 = .ok (.invokestatic 36, 3) := by decide +kernel
theorem dX3_flawOn_62 : decode cX3_flawOn 62 = .ok (.if_icmp .ge 5, 3) := by decide +kernel
theorem dX3_flawOn_65 : decode cX3_flawOn 65 = .ok (.iconst 3, 1) := by decide +kernel
theorem dX3_flawOn_66 : decode cX3_flawOn 66 = .ok (.ireturn, 1) := by decide +kernel
theorem dX3_flawOn_67 : decode cX3_flawOn 67 = .ok (.aload_n 0, 1) := by decide +kernel
theorem dX3_flawOn_68 : decode cX3_flawOn 68 = .ok (.aload_n 0, 1) := by decide +kernel
theorem dX3_flawOn_69 : decode cX3_flawOn 69 = .ok (.iload_n 1, 1) := by decide +kernel
theorem dX3_flawOn_70 : decode cX3_flawOn 70 = .ok (.invokevirtual 58, 3) := by decide +kernel
theorem dX3_flawOn_73 : decode cX3_flawOn 73 = .ok (.invokevirtual 48, 3) := by decide +kernel
theorem dX3_flawOn_76 : decode cX3_flawOn 76 = .ok (.astore 7, 2) := by decide +kernel
theorem dX3_flawOn_78 : decode cX3_flawOn 78 = .ok (.aload 7, 2) := by decide +kernel
theorem dX3_flawOn_80 : decode cX3_flawOn 80 = .ok (.ifnull 23, 3) := by decide +kernel
theorem dX3_flawOn_83 : decode cX3_flawOn 83 = .ok (.iload 6, 2) := by decide +kernel
theorem dX3_flawOn_85 : decode cX3_flawOn 85 = .ok (.aload 7, 2) := by decide +kernel
theorem dX3_flawOn_87 : decode cX3_flawOn 87 = .ok (.iconst 0, 1) := by decide +kernel
theorem dX3_flawOn_88 : decode cX3_flawOn 88 = .ok (.invokevirtual 55, 3) := by decide +kernel
theorem dX3_flawOn_91 : decode cX3_flawOn 91 = .ok (.isub, 1) := by decide +kernel
theorem dX3_flawOn_92 : decode cX3_flawOn 92 = .ok (.invokestatic 61, 3) := by decide +kernel
theorem dX3_flawOn_95 : decode cX3_flawOn 95 = .ok (.iload_n 3, 1) := by decide +kernel
theorem dX3_flawOn_96 : decode cX3_flawOn 96 = .ok (.if_icmp .le 7, 3) := by decide +kernel
theorem dX3_flawOn_99 : decode cX3_flawOn 99 = .ok (.iconst 4, 1) := by decide +kernel
theorem dX3_flawOn_100 : decode cX3_flawOn 100 = .ok (.goto 4, 3) := by decide +kernel
theorem dX3_flawOn_103 : decode cX3_flawOn 103 = .ok (.iconst 0, 1) := by decide +kernel
theorem dX3_flawOn_104 : decode cX3_flawOn 104 = .ok (.ireturn, 1) := by decide +kernel
theorem dX3_reach_0 : decode cX3_reach 0 = .ok (.ldc 66, 2) := by decide +kernel
theorem dX3_reach_2 : decode cX3_reach 2 = .ok (.istore_n 2, 1) := by decide +kernel
theorem dX3_reach_3 : decode cX3_reach 3 = .ok (.iconst 0, 1) := by decide +kernel
theorem dX3_reach_4 : decode cX3_reach 4 = .ok (.istore_n 3, 1) := by decide +kernel
theorem dX3_reach_5 : decode cX3_reach 5 = .ok (.iload_n 3, 1) := by decide +kernel
theorem dX3_reach_6 : decode cX3_reach 6 = .ok (.aload_n 0, 1) := by decide +kernel
theorem dX3_reach_7 : decode cX3_reach 7 = .ok (.getfield 25, 3) := by decide +kernel
theorem dX3_reach_10 : decode cX3_reach 10 = .ok (.if_icmp .ge 49, 3) := by decide +kernel
theorem dX3_reach_13 : decode cX3_reach 13 = .ok (.aload_n 0, 1) := by decide +kernel
theorem dX3_reach_14 : decode cX3_reach 14 = .ok (.iload_n 3, 1) := by decide +kernel
theorem dX3_reach_15 : decode cX3_reach 15 = .ok (.invokevirtual 48, 3) := by decide +kernel
theorem dX3_reach_18 : decode cX3_reach 18 = .ok (.astore 4, 2) := by decide +kernel
theorem dX3_reach_20 : decode cX3_reach 20 = .ok (.aload 4, 2) := by decide +kernel
theorem dX3_reach_22 : decode cX3_reach 22 = .ok (.ifnull 31, 3) := by decide +kernel
theorem dX3_reach_25 : decode cX3_reach 25 = .ok (.aload_n 0, 1) := by decide +kernel
theorem dX3_reach_26 : decode cX3_reach 26 = .ok (.iload_n 3, 1) := by decide +kernel
theorem dX3_reach_27 : decode cX3_reach 27 = .ok (.invokevirtual 40, 3) := by decide +kernel
theorem dX3_reach_30 : decode cX3_reach 30 = .ok (.iconst 4, 1) := by decide +kernel
theorem dX3_reach_31 : decode cX3_reach 31 = .ok (.if_icmp .eq 22, 3) := by decide +kernel
theorem dX3_reach_34 : decode cX3_reach 34 = .ok (.iload_n 2, 1) := by decide +kernel
theorem dX3_reach_35 : decode cX3_reach 35 = .ok (.aload 4, 2) := by decide +kernel
theorem dX3_reach_37 : decode cX3_reach 37 = .ok (.aload_n 1, 1) := by decide +kernel
theorem dX3_reach_38 : decode cX3_reach 38 = .ok (.aload_n 0, 1) := by decide +kernel
theorem dX3_reach_39 : decode cX3_reach 39 = .ok (.iload_n 3, 1) := by decide +kernel
theorem dX3_reach_40 : decode cX3_reach 40 = .ok (.invokevirtual 40, 3) := by decide +kernel
theorem dX3_reach_43 : decode cX3_reach 43 = .ok (.invokestatic 36, 3) := by decide +kernel
theorem dX3_reach_46 : decode cX3_reach 46 = .ok (.invokevirtual 67, 3) := by decide +kernel
theorem dX3_reach_49 : decode cX3_reach 49 = .ok (.invokestatic 70, 3) := by decide +kernel
theorem dX3_reach_52 : decode cX3_reach 52 = .ok (.istore_n 2, 1) := by decide +kernel
theorem dX3_reach_53 : decode cX3_reach 53 = .ok (.iinc 3 1, 3) := by decide +kernel
theorem dX3_reach_56 : decode cX3_reach 56 = .ok (.goto (-51), 3) := by decide +kernel
theorem dX3_reach_59 : decode cX3_reach 59 = .ok (.iload_n 2, 1) := by decide +kernel
theorem dX3_reach_60 : decode cX3_reach 60 = .ok (.ireturn, 1) := by decide +kernel
theorem dX3_rollingOn_0 : decode cX3_rollingOn 0 = .ok (.aload_n 0, 1) := by decide +kernel
theorem dX3_rollingOn_1 : decode cX3_rollingOn 1 = .ok (.iload_n 1, 1) := by decide +kernel
theorem dX3_rollingOn_2 : decode cX3_rollingOn 2 = .ok (.invokevirtual 40, 3) := by decide +kernel
theorem dX3_rollingOn_5 : decode cX3_rollingOn 5 = .ok (.istore_n 3, 1) := by decide +kernel
theorem dX3_rollingOn_6 : decode cX3_rollingOn 6 = .ok (.iload_n 3, 1) := by decide +kernel
theorem dX3_rollingOn_7 : decode cX3_rollingOn 7 = .ok (.iconst 4, 1) := by decide +kernel
theorem dX3_rollingOn_8 : decode cX3_rollingOn 8 = .ok (.if_icmp .eq 12, 3) := by decide +kernel
theorem dX3_rollingOn_11 : decode cX3_rollingOn 11 = .ok (.iload_n 3, 1) := by decide +kernel
theorem dX3_rollingOn_12 : decode cX3_rollingOn 12 = .ok (.iconst 3, 1) := by decide +kernel
theorem dX3_rollingOn_13 : decode cX3_rollingOn 13 = .ok (.if_icmp .ne 11, 3) := by decide +kernel
theorem dX3_rollingOn_16 : decode cX3_rollingOn 16 = .ok (.iload_n 2, 1) := by decide +kernel
theorem dX3_rollingOn_17 : decode cX3_rollingOn 17 = .ok (.ifCond .ne 7, 3) := by decide +kernel
theorem dX3_rollingOn_20 : decode cX3_rollingOn 20 = .ok (.aconst_null, 1) := by decide +kernel
theorem dX3_rollingOn_21 : decode cX3_rollingOn 21 = .ok (.goto 8, 3) := by decide +kernel
theorem dX3_rollingOn_24 : decode cX3_rollingOn 24 = .ok (.aload_n 0, 1) := by decide +kernel
theorem dX3_rollingOn_25 : decode cX3_rollingOn 25 = .ok (.iload_n 1, 1) := by decide +kernel
theorem dX3_rollingOn_26 : decode cX3_rollingOn 26 = .ok (.invokevirtual 48, 3) := by decide +kernel
theorem dX3_rollingOn_29 : decode cX3_rollingOn 29 = .ok (.areturn, 1) := by decide +kernel
theorem dX3_mostLengths_0 : decode cX3_mostLengths 0 = .ok (.iconst 0, 1) := by decide +kernel
theorem dX3_mostLengths_1 : decode cX3_mostLengths 1 = .ok (.istore_n 2, 1) := by decide +kernel
theorem dX3_mostLengths_2 : decode cX3_mostLengths 2 = .ok (.iconst 0, 1) := by decide +kernel
theorem dX3_mostLengths_3 : decode cX3_mostLengths 3 = .ok (.istore_n 3, 1) := by decide +kernel
theorem dX3_mostLengths_4 : decode cX3_mostLengths 4 = .ok (.iload_n 3, 1) := by decide +kernel
theorem dX3_mostLengths_5 : decode cX3_mostLengths 5 = .ok (.aload_n 0, 1) := by decide +kernel
theorem dX3_mostLengths_6 : decode cX3_mostLengths 6 = .ok (.getfield 25, 3) := by decide +kernel
theorem dX3_mostLengths_9 : decode cX3_mostLengths 9 = .ok (.if_icmp .ge 32, 3) := by decide +kernel
theorem dX3_mostLengths_12 : decode cX3_mostLengths 12 = .ok (.aload_n 0, 1) := by decide +kernel
theorem dX3_mostLengths_13 : decode cX3_mostLengths 13 = .ok (.iload_n 3, 1) := by decide +kernel
theorem dX3_mostLengths_14 : decode cX3_mostLengths 14 = .ok (.iload_n 1, 1) := by decide +kernel
theorem dX3_mostLengths_15 : decode cX3_mostLengths 15 = .ok (.invokevirtual 74, 3) := by decide +kernel
theorem dX3_mostLengths_18 : decode cX3_mostLengths 18 = .ok (.astore 4, 2) := by decide +kernel
theorem dX3_mostLengths_20 : decode cX3_mostLengths 20 = .ok (.aload 4, 2) := by decide +kernel
theorem dX3_mostLengths_22 : decode cX3_mostLengths 22 = .ok (.ifnull 13, 3) := by decide +kernel
theorem dX3_mostLengths_25 : decode cX3_mostLengths 25 = .ok (.iload_n 2, 1) := by decide +kernel
theorem dX3_mostLengths_26 : decode cX3_mostLengths 26 = .ok (.aload 4, 2) := by decide +kernel
theorem dX3_mostLengths_28 : decode cX3_mostLengths 28 = .ok (.getfield 78, 3) := by decide +kernel
theorem dX3_mostLengths_31 : decode cX3_mostLengths 31 = .ok (.invokestatic 81, 3) := by decide +kernel
theorem dX3_mostLengths_34 : decode cX3_mostLengths 34 = .ok (.istore_n 2, 1) := by decide +kernel
theorem dX3_mostLengths_35 : decode cX3_mostLengths 35 = .ok (.iinc 3 1, 3) := by decide +kernel
theorem dX3_mostLengths_38 : decode cX3_mostLengths 38 = .ok (.goto (-34), 3) := by decide +kernel
theorem dX3_mostLengths_41 : decode cX3_mostLengths 41 = .ok (.iload_n 2, 1) := by decide +kernel
theorem dX3_mostLengths_42 : decode cX3_mostLengths 42 = .ok (.ireturn, 1) := by decide +kernel
theorem dX3_roll_0 : decode cX3_roll 0 = .ok (.iconst 0, 1) := by decide +kernel
theorem dX3_roll_1 : decode cX3_roll 1 = .ok (.istore_n 3, 1) := by decide +kernel
theorem dX3_roll_2 : decode cX3_roll 2 = .ok (.iload_n 3, 1) := by decide +kernel
theorem dX3_roll_3 : decode cX3_roll 3 = .ok (.aload_n 0, 1) := by decide +kernel
theorem dX3_roll_4 : decode cX3_roll 4 = .ok (.getfield 25, 3) := by decide +kernel
theorem dX3_roll_7 : decode cX3_roll 7 = .ok (.if_icmp .ge 33, 3) := by decide +kernel
theorem dX3_roll_10 : decode cX3_roll 10 = .ok (.aload_n 0, 1) := by decide +kernel
theorem dX3_roll_11 : decode cX3_roll 11 = .ok (.iload_n 3, 1) := by decide +kernel
theorem dX3_roll_12 : decode cX3_roll 12 = .ok (.iload_n 2, 1) := by decide +kernel
theorem dX3_roll_13 : decode cX3_roll 13 = .ok (.invokevirtual 74, 3) := by decide +kernel
theorem dX3_roll_16 : decode cX3_roll 16 = .ok (.astore 4, 2) := by decide +kernel
theorem dX3_roll_18 : decode cX3_roll 18 = .ok (.aload 4, 2) := by decide +kernel
theorem dX3_roll_20 : decode cX3_roll 20 = .ok (.ifnull 14, 3) := by decide +kernel
theorem dX3_roll_23 : decode cX3_roll 23 = .ok (.aload 4, 2) := by decide +kernel
theorem dX3_roll_25 : decode cX3_roll 25 = .ok (.dup, 1) := by decide +kernel
theorem dX3_roll_26 : decode cX3_roll 26 = .ok (.getfield 78, 3) := by decide +kernel
theorem dX3_roll_29 : decode cX3_roll 29 = .ok (.iload_n 1, 1) := by decide +kernel
theorem dX3_roll_30 : decode cX3_roll 30 = .ok (.iadd, 1) := by decide +kernel
theorem dX3_roll_31 : decode cX3_roll 31 = .ok (.putfield 78, 3) := by decide +kernel
theorem dX3_roll_34 : decode cX3_roll 34 = .ok (.iinc 3 1, 3) := by decide +kernel
theorem dX3_roll_37 : decode cX3_roll 37 = .ok (.goto (-35), 3) := by decide +kernel
theorem dX3_roll_40 : decode cX3_roll 40 = .ok (.return_, 1) := by decide +kernel
