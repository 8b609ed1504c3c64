theorem dX1_init_0 : decode cX1_init 0 = .ok (.aload_n 0, 1) := by decide +kernel
theorem dX1_init_1 : decode cX1_init 1 = .ok (.invokespecial 3, 3) := by decide +kernel
theorem dX1_init_4 : decode cX1_init 4 = .ok (.aload_n 0, 1) := by decide +kernel
theorem dX1_init_5 : decode cX1_init 5 = .ok (.bipush 7, 2) := by decide +kernel
theorem dX1_init_7 : decode cX1_init 7 = .ok (.anewarray 9, 3) := by decide +kernel
theorem dX1_init_10 : decode cX1_init 10 = .ok (.putfield 11, 3) := by decide +kernel
theorem dX1_init_13 : decode cX1_init 13 = .ok (.aload_n 0, 1) := by decide +kernel
theorem dX1_init_14 : decode cX1_init 14 = .ok (.bipush 49, 2) := by decide +kernel
theorem dX1_init_16 : decode cX1_init 16 = .ok (.newarray .int, 2) := by decide +kernel
theorem dX1_init_18 : decode cX1_init 18 = .ok (.putfield 17, 3) := by decide +kernel
theorem dX1_init_21 : decode cX1_init 21 = .ok (.aload_n 0, 1) := by decide +kernel
theorem dX1_init_22 : decode cX1_init 22 = .ok (.bipush 7, 2) := by decide +kernel
theorem dX1_init_24 : decode cX1_init 24 = .ok (.newarray .int, 2) := by decide +kernel
theorem dX1_init_26 : decode cX1_init 26 = .ok (.putfield 21, 3) := by decide +kernel
theorem dX1_init_29 : decode cX1_init 29 = .ok (.aload_n 0, 1) := by decide +kernel
theorem dX1_init_30 : decode cX1_init 30 = .ok (.bipush 7, 2) := by decide +kernel
theorem dX1_init_32 : decode cX1_init 32 = .ok (.newarray .int, 2) := by decide +kernel
theorem dX1_init_34 : decode cX1_init 34 = .ok (.putfield 24, 3) := by decide +kernel
theorem dX1_init_37 : decode cX1_init 37 = .ok (.aload_n 0, 1) := by decide +kernel
theorem dX1_init_38 : decode cX1_init 38 = .ok (.bipush 7, 2) := by decide +kernel
theorem dX1_init_40 : decode cX1_init 40 = .ok (.newarray .int, 2) := by decide +kernel
theorem dX1_init_42 : decode cX1_init 42 = .ok (.putfield 27, 3) := by decide +kernel
theorem dX1_init_45 : decode cX1_init 45 = .ok (.aload_n 0, 1) := by decide +kernel
theorem dX1_init_46 : decode cX1_init 46 = .ok (.sipush 1024, 3) := by decide +kernel
theorem dX1_init_49 : decode cX1_init 49 = .ok (.newarray .int, 2) := by decide +kernel
theorem dX1_init_51 : decode cX1_init 51 = .ok (.putfield 30, 3) := by decide +kernel
theorem dX1_init_54 : decode cX1_init 54 = .ok (.return_, 1) := by decide +kernel
theorem dX1_findReach_0 : decode cX1_findReach 0 = .ok (.aload_n 0, 1) := by decide +kernel
theorem dX1_findReach_1 : decode cX1_findReach 1 = .ok (.aload_n 1, 1) := by decide +kernel
theorem dX1_findReach_2 : decode cX1_findReach 2 = .ok (.getfield 33, 3) := by decide +kernel
theorem dX1_findReach_5 : decode cX1_findReach 5 = .ok (.bipush 7, 2) := by decide +kernel
theorem dX1_findReach_7 : decode cX1_findReach 7 = .ok (.invokestatic 39, 3) := by decide +kernel
theorem dX1_findReach_10 : decode cX1_findReach 10 = .ok (.putfield 45, 3) := by decide +kernel
theorem dX1_findReach_13 : decode cX1_findReach 13 = .ok (.aload_n 0, 1) := by decide +kernel
theorem dX1_findReach_14 : decode cX1_findReach 14 = .ok (.aload_n 1, 1) := by decide +kernel
theorem dX1_findReach_15 : decode cX1_findReach 15 = .ok (.invokevirtual 46, 3) := by decide +kernel
theorem dX1_findReach_18 : decode cX1_findReach 18 = .ok (.aload_n 0, 1) := by decide +kernel
theorem dX1_findReach_19 : decode cX1_findReach 19 = .ok (.getfield 50, 3) := by decide +kernel
theorem dX1_findReach_22 : decode cX1_findReach 22 = .ok (.ifCond .ne 5, 3) := by decide +kernel
theorem dX1_findReach_25 : decode cX1_findReach 25 = .ok (.iconst 0, 1) := by decide +kernel
theorem dX1_findReach_26 : decode cX1_findReach 26 = .ok (.ireturn, 1) := by decide +kernel
theorem dX1_findReach_27 : decode cX1_findReach 27 = .ok (.iconst 0, 1) := by decide +kernel
theorem dX1_findReach_28 : decode cX1_findReach 28 = .ok (.istore_n 3, 1) := by decide +kernel
theorem dX1_findReach_29 : decode cX1_findReach 29 = .ok (.iload_n 3, 1) := by decide +kernel
theorem dX1_findReach_30 : decode cX1_findReach 30 = .ok (.aload_n 0, 1) := by decide +kernel
theorem dX1_findReach_31 : decode cX1_findReach 31 = .ok (.getfield 45, 3) := by decide +kernel
theorem dX1_findReach_34 : decode cX1_findReach 34 = .ok (.if_icmp .ge 16, 3) := by decide +kernel
theorem dX1_findReach_37 : decode cX1_findReach 37 = .ok (.aload_n 0, 1) := by decide +kernel
theorem dX1_findReach_38 : decode cX1_findReach 38 = .ok (.aload_n 1, 1) := by decide +kernel
theorem dX1_findReach_39 : decode cX1_findReach 39 = .ok (.iload_n 3, 1) := by decide +kernel
theorem dX1_findReach_40 : decode cX1_findReach 40 = .ok (.aload_n 2, 1) := by decide +kernel
theorem dX1_findReach_41 : decode cX1_findReach 41 = .ok (.invokevirtual 53, 3) := by decide +kernel
theorem dX1_findReach_44 : decode cX1_findReach 44 = .ok (.iinc 3 1, 3) := by decide +kernel
theorem dX1_findReach_47 : decode cX1_findReach 47 = .ok (.goto (-18), 3) := by decide +kernel
theorem dX1_findReach_50 : decode cX1_findReach 50 = .ok (.aload_n 0, 1) := by decide +kernel
theorem dX1_findReach_51 : decode cX1_findReach 51 = .ok (.invokevirtual 57, 3) := by decide +kernel
theorem dX1_findReach_54 : decode cX1_findReach 54 = .ok (.aload_n 0, 1) := by decide +kernel
theorem dX1_findReach_55 : decode cX1_findReach 55 = .ok (.aload_n 0, 1) := by decide +kernel
theorem dX1_findReach_56 : decode cX1_findReach 56 = .ok (.getfield 30, 3) := by decide +kernel
theorem dX1_findReach_59 : decode cX1_findReach 59 = .ok (.iconst 0, 1) := by decide +kernel
theorem dX1_findReach_60 : decode cX1_findReach 60 = .ok (.iconst 0, 1) := by decide +kernel
theorem dX1_findReach_61 : decode cX1_findReach 61 = .ok (.invokestatic 60, 3) := by decide +kernel
theorem dX1_findReach_64 : decode cX1_findReach 64 = .ok (.invokestatic 63, 3) := by decide +kernel
theorem dX1_findReach_67 : decode cX1_findReach 67 = .ok (.putfield 67, 3) := by decide +kernel
theorem dX1_findReach_70 : decode cX1_findReach 70 = .ok (.aload_n 0, 1) := by decide +kernel
theorem dX1_findReach_71 : decode cX1_findReach 71 = .ok (.getfield 67, 3) := by decide +kernel
theorem dX1_findReach_74 : decode cX1_findReach 74 = .ok (.iconst (-1), 1) := by decide +kernel
theorem dX1_findReach_75 : decode cX1_findReach 75 = .ok (.if_icmp .eq 7, 3) := by decide +kernel
theorem dX1_findReach_78 : decode cX1_findReach 78 = .ok (.iconst 1, 1) := by decide +kernel
theorem dX1_findReach_79 : decode cX1_findReach 79 = .ok (.goto 4, 3) := by decide +kernel
theorem dX1_findReach_82 : decode cX1_findReach 82 = .ok (.iconst 0, 1) := by decide +kernel
theorem dX1_findReach_83 : decode cX1_findReach 83 = .ok (.ireturn, 1) := by decide +kernel
theorem dX1_findWay_0 : decode cX1_findWay 0 = .ok (.aload_n 0, 1) := by decide +kernel
theorem dX1_findWay_1 : decode cX1_findWay 1 = .ok (.invokevirtual 70, 3) := by decide +kernel
theorem dX1_findWay_4 : decode cX1_findWay 4 = .ok (.iconst 0, 1) := by decide +kernel
theorem dX1_findWay_5 : decode cX1_findWay 5 = .ok (.istore_n 1, 1) := by decide +kernel
theorem dX1_findWay_6 : decode cX1_findWay 6 = .ok (.iconst 0, 1) := by decide +kernel
theorem dX1_findWay_7 : decode cX1_findWay 7 = .ok (.istore_n 2, 1) := by decide +kernel
theorem dX1_findWay_8 : decode cX1_findWay 8 = .ok (.iload_n 2, 1) := by decide +kernel
theorem dX1_findWay_9 : decode cX1_findWay 9 = .ok (.aload_n 0, 1) := by decide +kernel
theorem dX1_findWay_10 : decode cX1_findWay 10 = .ok (.getfield 45, 3) := by decide +kernel
theorem dX1_findWay_13 : decode cX1_findWay 13 = .ok (.if_icmp .ge 40, 3) := by decide +kernel
theorem dX1_findWay_16 : decode cX1_findWay 16 = .ok (.aload_n 0, 1) := by decide +kernel
theorem dX1_findWay_17 : decode cX1_findWay 17 = .ok (.iload_n 2, 1) := by decide +kernel
theorem dX1_findWay_18 : decode cX1_findWay 18 = .ok (.iload_n 1, 1) := by decide +kernel
theorem dX1_findWay_19 : decode cX1_findWay 19 = .ok (.invokevirtual 73, 3) := by decide +kernel
theorem dX1_findWay_22 : decode cX1_findWay 22 = .ok (.istore_n 3, 1) := by decide +kernel
theorem dX1_findWay_23 : decode cX1_findWay 23 = .ok (.aload_n 0, 1) := by decide +kernel
theorem dX1_findWay_24 : decode cX1_findWay 24 = .ok (.getfield 27, 3) := by decide +kernel
theorem dX1_findWay_27 : decode cX1_findWay 27 = .ok (.iload_n 2, 1) := by decide +kernel
theorem dX1_findWay_28 : decode cX1_findWay 28 = .ok (.iload_n 3, 1) := by decide +kernel
theorem dX1_findWay_29 : decode cX1_findWay 29 = .ok (.invokestatic 76, 3) := by decide +kernel
theorem dX1_findWay_32 : decode cX1_findWay 32 = .ok (.iload_n 3, 1) := by decide +kernel
theorem dX1_findWay_33 : decode cX1_findWay 33 = .ok (.iconst (-1), 1) := by decide +kernel
theorem dX1_findWay_34 : decode cX1_findWay 34 = .ok (.if_icmp .ne 7, 3) := by decide +kernel
theorem dX1_findWay_37 : decode cX1_findWay 37 = .ok (.iload_n 1, 1) := by decide +kernel
theorem dX1_findWay_38 : decode cX1_findWay 38 = .ok (.goto 8, 3) := by decide +kernel
theorem dX1_findWay_41 : decode cX1_findWay 41 = .ok (.iload_n 1, 1) := by decide +kernel
theorem dX1_findWay_42 : decode cX1_findWay 42 = .ok (.iconst 1, 1) := by decide +kernel
theorem dX1_findWay_43 : decode cX1_findWay 43 = .ok (.iload_n 3, 1) := by decide +kernel
theorem dX1_findWay_44 : decode cX1_findWay 44 = .ok (.ishl, 1) := by decide +kernel
theorem dX1_findWay_45 : decode cX1_findWay 45 = .ok (.ior, 1) := by decide +kernel
theorem dX1_findWay_46 : decode cX1_findWay 46 = .ok (.istore_n 1, 1) := by decide +kernel
theorem dX1_findWay_47 : decode cX1_findWay 47 = .ok (.iinc 2 1, 3) := by decide +kernel
theorem dX1_findWay_50 : decode cX1_findWay 50 = .ok (.goto (-42), 3) := by decide +kernel
theorem dX1_findWay_53 : decode cX1_findWay 53 = .ok (.aload_n 0, 1) := by decide +kernel
theorem dX1_findWay_54 : decode cX1_findWay 54 = .ok (.getfield 30, 3) := by decide +kernel
theorem dX1_findWay_57 : decode cX1_findWay 57 = .ok (.iconst 0, 1) := by decide +kernel
theorem dX1_findWay_58 : decode cX1_findWay 58 = .ok (.iconst 0, 1) := by decide +kernel
theorem dX1_findWay_59 : decode cX1_findWay 59 = .ok (.invokestatic 60, 3) := by decide +kernel
theorem dX1_findWay_62 : decode cX1_findWay 62 = .ok (.invokestatic 63, 3) := by decide +kernel
theorem dX1_findWay_65 : decode cX1_findWay 65 = .ok (.ireturn, 1) := by decide +kernel
theorem dX1_chosenFor_0 : decode cX1_chosenFor 0 = .ok (.aload_n 0, 1) := by decide +kernel
theorem dX1_chosenFor_1 : decode cX1_chosenFor 1 = .ok (.aload_n 0, 1) := by decide +kernel
theorem dX1_chosenFor_2 : decode cX1_chosenFor 2 = .ok (.getfield 27, 3) := by decide +kernel
theorem dX1_chosenFor_5 : decode cX1_chosenFor 5 = .ok (.iload_n 1, 1) := by decide +kernel
theorem dX1_chosenFor_6 : decode cX1_chosenFor 6 = .ok (.invokestatic 63, 3) := by decide +kernel
theorem dX1_chosenFor_9 : decode cX1_chosenFor 9 = .ok (.invokevirtual 80, 3) := by decide +kernel
theorem dX1_chosenFor_12 : decode cX1_chosenFor 12 = .ok (.areturn, 1) := by decide +kernel
theorem dX1_turnedAt_0 : decode cX1_turnedAt 0 = .ok (.iload_n 1, 1) := by decide +kernel
theorem dX1_turnedAt_1 : decode cX1_turnedAt 1 = .ok (.ifCond .lt 29, 3) := by decide +kernel
theorem dX1_turnedAt_4 : decode cX1_turnedAt 4 = .ok (.iload_n 1, 1) := by decide +kernel
theorem dX1_turnedAt_5 : decode cX1_turnedAt 5 = .ok (.aload_n 0, 1) := by decide +kernel
theorem dX1_turnedAt_6 : decode cX1_turnedAt 6 = .ok (.getfield 50, 3) := by decide +kernel
theorem dX1_turnedAt_9 : decode cX1_turnedAt 9 = .ok (.if_icmp .ge 21, 3) := by decide +kernel
theorem dX1_turnedAt_12 : decode cX1_turnedAt 12 = .ok (.iload_n 1, 1) := by decide +kernel
theorem dX1_turnedAt_13 : decode cX1_turnedAt 13 = .ok (.aload_n 0, 1) := by decide +kernel
theorem dX1_turnedAt_14 : decode cX1_turnedAt 14 = .ok (.getfield 11, 3) := by decide +kernel
theorem dX1_turnedAt_17 : decode cX1_turnedAt 17 = .ok (.arraylength, 1) := by decide +kernel
theorem dX1_turnedAt_18 : decode cX1_turnedAt 18 = .ok (.if_icmp .ge 12, 3) := by decide +kernel
theorem dX1_turnedAt_21 : decode cX1_turnedAt 21 = .ok (.aload_n 0, 1) := by decide +kernel
theorem dX1_turnedAt_22 : decode cX1_turnedAt 22 = .ok (.getfield 11, 3) := by decide +kernel
theorem dX1_turnedAt_25 : decode cX1_turnedAt 25 = .ok (.iload_n 1, 1) := by decide +kernel
theorem dX1_turnedAt_26 : decode cX1_turnedAt 26 = .ok (.aaload, 1) := by decide +kernel
theorem dX1_turnedAt_27 : decode cX1_turnedAt 27 = .ok (.goto 4, 3) := by decide +kernel
theorem dX1_turnedAt_30 : decode cX1_turnedAt 30 = .ok (.aconst_null, 1) := by decide +kernel
theorem dX1_turnedAt_31 : decode cX1_turnedAt 31 = .ok (.areturn, 1) := by decide +kernel
theorem dX1_gather_0 : decode cX1_gather 0 = .ok (.aload_n 0, 1) := by decide +kernel
theorem dX1_gather_1 : decode cX1_gather 1 = .ok (.iconst 0, 1) := by decide +kernel
theorem dX1_gather_2 : decode cX1_gather 2 = .ok (.putfield 50, 3) := by decide +kernel
theorem dX1_gather_5 : decode cX1_gather 5 = .ok (.iconst 0, 1) := by decide +kernel
theorem dX1_gather_6 : decode cX1_gather 6 = .ok (.istore_n 2, 1) := by decide +kernel
theorem dX1_gather_7 : decode cX1_gather 7 = .ok (.iload_n 2, 1) := by decide +kernel
theorem dX1_gather_8 : decode cX1_gather 8 = .ok (.aload_n 0, 1) := by decide +kernel
theorem dX1_gather_9 : decode cX1_gather 9 = .ok (.getfield 45, 3) := by decide +kernel
theorem dX1_gather_12 : decode cX1_gather 12 = .ok (.if_icmp .ge 24, 3) := by decide +kernel
theorem dX1_gather_15 : decode cX1_gather 15 = .ok (.aload_n 1, 1) := by decide +kernel
theorem dX1_gather_16 : decode cX1_gather 16 = .ok (.iload_n 2, 1) := by decide +kernel
theorem dX1_gather_17 : decode cX1_gather 17 = .ok (.invokevirtual 84, 3) := by decide +kernel
theorem dX1_gather_20 : decode cX1_gather 20 = .ok (.astore_n 3, 1) := by decide +kernel
theorem dX1_gather_21 : decode cX1_gather 21 = .ok (.aload_n 3, 1) := by decide +kernel
theorem dX1_gather_22 : decode cX1_gather 22 = .ok (.ifnull 8, 3) := by decide +kernel
theorem dX1_gather_25 : decode cX1_gather 25 = .ok (.aload_n 0, 1) := by decide +kernel
theorem dX1_gather_26 : decode cX1_gather 26 = .ok (.aload_n 3, 1) := by decide +kernel
theorem dX1_gather_27 : decode cX1_gather 27 = .ok (.invokevirtual 87, 3) := by decide +kernel
theorem dX1_gather_30 : decode cX1_gather 30 = .ok (.iinc 2 1, 3) := by decide +kernel
theorem dX1_gather_33 : decode cX1_gather 33 = .ok (.goto (-26), 3) := by decide +kernel
theorem dX1_gather_36 : decode cX1_gather 36 = .ok (.return_, 1) := by decide +kernel
theorem dX1_insert_0 : decode cX1_insert 0 = .ok (.aload_n 0, 1) := by decide +kernel
theorem dX1_insert_1 : decode cX1_insert 1 = .ok (.getfield 50, 3) := by decide +kernel
theorem dX1_insert_4 : decode cX1_insert 4 = .ok (.istore_n 2, 1) := by decide +kernel
theorem dX1_insert_5 : decode cX1_insert 5 = .ok (.iload_n 2, 1) := by decide +kernel
theorem dX1_insert_6 : decode cX1_insert 6 = .ok (.ifCond .le 52, 3) := by decide +kernel
theorem dX1_insert_9 : decode cX1_insert 9 = .ok (.iload_n 2, 1) := by decide +kernel
theorem dX1_insert_10 : decode cX1_insert 10 = .ok (.aload_n 0, 1) := by decide +kernel
theorem dX1_insert_11 : decode cX1_insert 11 = .ok (.getfield 11, 3) := by decide +kernel
theorem dX1_insert_14 : decode cX1_insert 14 = .ok (.arraylength, 1) := by decide +kernel
theorem dX1_insert_15 : decode cX1_insert 15 = .ok (.if_icmp .ge 43, 3) := by decide +kernel
theorem dX1_insert_18 : decode cX1_insert 18 = .ok (.aload_n 0, 1) := by decide +kernel
theorem dX1_insert_19 : decode cX1_insert 19 = .ok (.getfield 11, 3) := by decide +kernel
theorem dX1_insert_22 : decode cX1_insert 22 = .ok (.iload_n 2, 1) := by decide +kernel
theorem dX1_insert_23 : decode cX1_insert 23 = .ok (.iconst 1, 1) := by decide +kernel
theorem dX1_insert_24 : decode cX1_insert 24 = .ok (.isub, 1) := by decide +kernel
theorem dX1_insert_25 : decode cX1_insert 25 = .ok (.aaload, 1) := by decide +kernel
theorem dX1_insert_26 : decode cX1_insert 26 = .ok (.astore_n 3, 1) := by decide +kernel
theorem dX1_insert_27 : decode cX1_insert 27 = .ok (.aload_n 3, 1) := by decide +kernel
theorem dX1_insert_28 : decode cX1_insert 28 = .ok (.ifnull 30, 3) := by decide +kernel
theorem dX1_insert_31 : decode cX1_insert 31 = .ok (.aload_n 3, 1) := by decide +kernel
theorem dX1_insert_32 : decode cX1_insert 32 = .ok (.getfield 91, 3) := by decide +kernel
theorem dX1_insert_35 : decode cX1_insert 35 = .ok (.aload_n 1, 1) := by decide +kernel
theorem dX1_insert_36 : decode cX1_insert 36 = .ok (.getfield 91, 3) := by decide +kernel
theorem dX1_insert_39 : decode cX1_insert 39 = .ok (.if_icmp .ge 6, 3) := by decide +kernel
theorem dX1_insert_42 : decode cX1_insert 42 = .ok (.goto 16, 3) := by decide +kernel
theorem dX1_insert_45 : decode cX1_insert 45 = .ok (.aload_n 0, 1) := by decide +kernel
theorem dX1_insert_46 : decode cX1_insert 46 = .ok (.getfield 11, 3) := by decide +kernel
theorem dX1_insert_49 : decode cX1_insert 49 = .ok (.iload_n 2, 1) := by decide +kernel
theorem dX1_insert_50 : decode cX1_insert 50 = .ok (.aload_n 3, 1) := by decide +kernel
theorem dX1_insert_51 : decode cX1_insert 51 = .ok (.aastore, 1) := by decide +kernel
theorem dX1_insert_52 : decode cX1_insert 52 = .ok (.iinc 2 (-1), 3) := by decide +kernel
theorem dX1_insert_55 : decode cX1_insert 55 = .ok (.goto (-50), 3) := by decide +kernel
theorem dX1_insert_58 : decode cX1_insert 58 = .ok (.iload_n 2, 1) := by decide +kernel
theorem dX1_insert_59 : decode cX1_insert 59 = .ok (.ifCond .lt 29, 3) := by decide +kernel
theorem dX1_insert_62 : decode cX1_insert 62 = .ok (.iload_n 2, 1) := by decide +kernel
theorem dX1_insert_63 : decode cX1_insert 63 = .ok (.aload_n 0, 1) := by decide +kernel
theorem dX1_insert_64 : decode cX1_insert 64 = .ok (.getfield 11, 3) := by decide +kernel
theorem dX1_insert_67 : decode cX1_insert 67 = .ok (.arraylength, 1) := by decide +kernel
theorem dX1_insert_68 : decode cX1_insert 68 = .ok (.if_icmp .ge 20, 3) := by decide +kernel
theorem dX1_insert_71 : decode cX1_insert 71 = .ok (.aload_n 0, 1) := by decide +kernel
theorem dX1_insert_72 : decode cX1_insert 72 = .ok (.getfield 11, 3) := by decide +kernel
theorem dX1_insert_75 : decode cX1_insert 75 = .ok (.iload_n 2, 1) := by decide +kernel
theorem dX1_insert_76 : decode cX1_insert 76 = .ok (.aload_n 1, 1) := by decide +kernel
theorem dX1_insert_77 : decode cX1_insert 77 = .ok (.aastore, 1) := by decide +kernel
theorem dX1_insert_78 : decode cX1_insert 78 = .ok (.aload_n 0, 1) := by decide +kernel
theorem dX1_insert_79 : decode cX1_insert 79 = .ok (.dup, 1) := by decide +kernel
theorem dX1_insert_80 : decode cX1_insert 80 = .ok (.getfield 50, 3) := by decide +kernel
theorem dX1_insert_83 : decode cX1_insert 83 = .ok (.iconst 1, 1) := by decide +kernel
theorem dX1_insert_84 : decode cX1_insert 84 = .ok (.iadd, 1) := by decide +kernel
theorem dX1_insert_85 : decode cX1_insert 85 = .ok (.putfield 50, 3) := by decide +kernel
theorem dX1_insert_88 : decode cX1_insert 88 = .ok (.return_, 1) := by decide +kernel
theorem dX1_weigh_0 : decode cX1_weigh 0 = .ok (.aload_n 1, 1) := by decide +kernel
theorem dX1_weigh_1 : decode cX1_weigh 1 = .ok (.iload_n 2, 1) := by decide +kernel
theorem dX1_weigh_2 : decode cX1_weigh 2 = .ok (.invokevirtual 94, 3) := by decide +kernel
theorem dX1_weigh_5 : decode cX1_weigh 5 = .ok (.istore 4, 2) := by decide +kernel
theorem dX1_weigh_7 : decode cX1_weigh 7 = .ok (.aload_n 1, 1) := by decide +kernel
theorem dX1_weigh_8 : decode cX1_weigh 8 = .ok (.iload_n 2, 1) := by decide +kernel
theorem dX1_weigh_9 : decode cX1_weigh 9 = .ok (.invokevirtual 84, 3) := by decide +kernel
theorem dX1_weigh_12 : decode cX1_weigh 12 = .ok (.astore 5, 2) := by decide +kernel
theorem dX1_weigh_14 : decode cX1_weigh 14 = .ok (.aload_n 0, 1) := by decide +kernel
theorem dX1_weigh_15 : decode cX1_weigh 15 = .ok (.getfield 24, 3) := by decide +kernel
theorem dX1_weigh_18 : decode cX1_weigh 18 = .ok (.iload_n 2, 1) := by decide +kernel
theorem dX1_weigh_19 : decode cX1_weigh 19 = .ok (.aload 5, 2) := by decide +kernel
theorem dX1_weigh_21 : decode cX1_weigh 21 = .ok (.ifnull 13, 3) := by decide +kernel
theorem dX1_weigh_24 : decode cX1_weigh 24 = .ok (.iload 4, 2) := by decide +kernel
theorem dX1_weigh_26 : decode cX1_weigh 26 = .ok (.iconst 4, 1) := by decide +kernel
theorem dX1_weigh_27 : decode cX1_weigh 27 = .ok (.if_icmp .eq 7, 3) := by decide +kernel
theorem dX1_weigh_30 : decode cX1_weigh 30 = .ok (.iconst 1, 1) := by decide +kernel
theorem dX1_weigh_31 : decode cX1_weigh 31 = .ok (.goto 4, 3) := by decide +kernel
theorem dX1_weigh_34 : decode cX1_weigh 34 = .ok (.iconst 0, 1) := by decide +kernel
theorem dX1_weigh_35 : decode cX1_weigh 35 = .ok (.invokestatic 76, 3) := by decide +kernel
theorem dX1_weigh_38 : decode cX1_weigh 38 = .ok (.aload_n 0, 1) := by decide +kernel
theorem dX1_weigh_39 : decode cX1_weigh 39 = .ok (.getfield 21, 3) := by decide +kernel
theorem dX1_weigh_42 : decode cX1_weigh 42 = .ok (.iload_n 2, 1) := by decide +kernel
theorem dX1_weigh_43 : decode cX1_weigh 43 = .ok (.iconst (-1), 1) := by decide +kernel
theorem dX1_weigh_44 : decode cX1_weigh 44 = .ok (.invokestatic 76, 3) := by decide +kernel
theorem dX1_weigh_47 : decode cX1_weigh 47 = .ok (.iconst 0, 1) := by decide +kernel
theorem dX1_weigh_48 : decode cX1_weigh 48 = .ok (.istore 6, 2) := by decide +kernel
theorem dX1_weigh_50 : decode cX1_weigh 50 = .ok (.iload 6, 2) := by decide +kernel
theorem dX1_weigh_52 : decode cX1_weigh 52 = .ok (.aload_n 0, 1) := by decide +kernel
theorem dX1_weigh_53 : decode cX1_weigh 53 = .ok (.getfield 50, 3) := by decide +kernel
theorem dX1_weigh_56 : decode cX1_weigh 56 = .ok (.if_icmp .ge 64, 3) := by decide +kernel
theorem dX1_weigh_59 : decode cX1_weigh 59 = .ok (.aload_n 0, 1) := by decide +kernel
theorem dX1_weigh_60 : decode cX1_weigh 60 = .ok (.iload 6, 2) := by decide +kernel
theorem dX1_weigh_62 : decode cX1_weigh 62 = .ok (.invokevirtual 80, 3) := by decide +kernel
theorem dX1_weigh_65 : decode cX1_weigh 65 = .ok (.astore 7, 2) := by decide +kernel
theorem dX1_weigh_67 : decode cX1_weigh 67 = .ok (.aload 7, 2) := by decide +kernel
theorem dX1_weigh_69 : decode cX1_weigh 69 = .ok (.ifnonnull 6, 3) := by decide +kernel
theorem dX1_weigh_72 : decode cX1_weigh 72 = .ok (.goto 42, 3) := by decide +kernel
theorem dX1_weigh_75 : decode cX1_weigh 75 = .ok (.aload 7, 2) := by decide +kernel
theorem dX1_weigh_77 : decode cX1_weigh 77 = .ok (.aload 5, 2) := by decide +kernel
theorem dX1_weigh_79 : decode cX1_weigh 79 = .ok (.if_acmp .ne 13, 3) := by decide +kernel
theorem dX1_weigh_82 : decode cX1_weigh 82 = .ok (.aload_n 0, 1) := by decide +kernel
theorem dX1_weigh_83 : decode cX1_weigh 83 = .ok (.getfield 21, 3) := by decide +kernel
theorem dX1_weigh_86 : decode cX1_weigh 86 = .ok (.iload_n 2, 1) := by decide +kernel
theorem dX1_weigh_87 : decode cX1_weigh 87 = .ok (.iload 6, 2) := by decide +kernel
theorem dX1_weigh_89 : decode cX1_weigh 89 = .ok (.invokestatic 76, 3) := by decide +kernel
theorem dX1_weigh_92 : decode cX1_weigh 92 = .ok (.aload_n 0, 1) := by decide +kernel
theorem dX1_weigh_93 : decode cX1_weigh 93 = .ok (.getfield 17, 3) := by decide +kernel
theorem dX1_weigh_96 : decode cX1_weigh 96 = .ok (.iload_n 2, 1) := by decide +kernel
theorem dX1_weigh_97 : decode cX1_weigh 97 = .ok (.bipush 7, 2) := by decide +kernel
theorem dX1_weigh_99 : decode cX1_weigh 99 = .ok (.imul, 1) := by decide +kernel
theorem dX1_weigh_100 : decode cX1_weigh 100 = .ok (.iload 6, 2) := by decide +kernel
theorem dX1_weigh_102 : decode cX1_weigh 102 = .ok (.iadd, 1) := by decide +kernel
theorem dX1_weigh_103 : decode cX1_weigh 103 = .ok (.aload 7, 2) := by decide +kernel
theorem dX1_weigh_105 : decode cX1_weigh 105 = .ok (.iload 4, 2) := by decide +kernel
theorem dX1_weigh_107 : decode cX1_weigh 107 = .ok (.aload_n 3, 1) := by decide +kernel
theorem dX1_weigh_108 : decode cX1_weigh 108 = .ok (.invokestatic 98, 3) := by decide +kernel
theorem dX1_weigh_111 : decode cX1_weigh 111 = .ok (.invokestatic 76, 3) := by decide +kernel
theorem dX1_weigh_114 : decode cX1_weigh 114 = .ok (.iinc 6 1, 3) := by decide +kernel
theorem dX1_weigh_117 : decode cX1_weigh 117 = .ok (.goto (-67), 3) := by decide +kernel
theorem dX1_weigh_120 : decode cX1_weigh 120 = .ok (.return_, 1) := by decide +kernel
theorem dX1_reachOf_0 : decode cX1_reachOf 0 = .ok (.iload_n 1, 1) := by decide +kernel
theorem dX1_reachOf_1 : decode cX1_reachOf 1 = .ok (.iconst 4, 1) := by decide +kernel
theorem dX1_reachOf_2 : decode cX1_reachOf 2 = .ok (.if_icmp .ne 6, 3) := by decide +kernel
theorem dX1_reachOf_5 : decode cX1_reachOf 5 = .ok (.ldc 102, 2) := by decide +kernel
theorem dX1_reachOf_7 : decode cX1_reachOf 7 = .ok (.ireturn, 1) := by decide +kernel
theorem dX1_reachOf_8 : decode cX1_reachOf 8 = .ok (.iload_n 1, 1) := by decide +kernel
theorem dX1_reachOf_9 : decode cX1_reachOf 9 = .ok (.ifCond .ne 14, 3) := by decide +kernel
theorem dX1_reachOf_12 : decode cX1_reachOf 12 = .ok (.aload_n 0, 1) := by decide +kernel
theorem dX1_reachOf_13 : decode cX1_reachOf 13 = .ok (.getfield 103, 3) := by decide +kernel
theorem dX1_reachOf_16 : decode cX1_reachOf 16 = .ok (.ifCond .le 7, 3) := by decide +kernel
theorem dX1_reachOf_19 : decode cX1_reachOf 19 = .ok (.iconst (-1), 1) := by decide +kernel
theorem dX1_reachOf_20 : decode cX1_reachOf 20 = .ok (.goto 12, 3) := by decide +kernel
theorem dX1_reachOf_23 : decode cX1_reachOf 23 = .ok (.aload_n 0, 1) := by decide +kernel
theorem dX1_reachOf_24 : decode cX1_reachOf 24 = .ok (.aload_n 2, 1) := by decide +kernel
theorem dX1_reachOf_25 : decode cX1_reachOf 25 = .ok (.iload_n 1, 1) := by decide +kernel
theorem dX1_reachOf_26 : decode cX1_reachOf 26 = .ok (.invokestatic 63, 3) := by decide +kernel
theorem dX1_reachOf_29 : decode cX1_reachOf 29 = .ok (.invokevirtual 106, 3) := by decide +kernel
theorem dX1_reachOf_32 : decode cX1_reachOf 32 = .ok (.ireturn, 1) := by decide +kernel
theorem dX1_slot_0 : decode cX1_slot 0 = .ok (.iload_n 0, 1) := by decide +kernel
theorem dX1_slot_1 : decode cX1_slot 1 = .ok (.bipush 7, 2) := by decide +kernel
theorem dX1_slot_3 : decode cX1_slot 3 = .ok (.ishl, 1) := by decide +kernel
theorem dX1_slot_4 : decode cX1_slot 4 = .ok (.iload_n 1, 1) := by decide +kernel
theorem dX1_slot_5 : decode cX1_slot 5 = .ok (.ior, 1) := by decide +kernel
theorem dX1_slot_6 : decode cX1_slot 6 = .ok (.ireturn, 1) := by decide +kernel
theorem dX1_allUsed_0 : decode cX1_allUsed 0 = .ok (.iconst 1, 1) := by decide +kernel
theorem dX1_allUsed_1 : decode cX1_allUsed 1 = .ok (.aload_n 0, 1) := by decide +kernel
theorem dX1_allUsed_2 : decode cX1_allUsed 2 = .ok (.getfield 50, 3) := by decide +kernel
theorem dX1_allUsed_5 : decode cX1_allUsed 5 = .ok (.ishl, 1) := by decide +kernel
theorem dX1_allUsed_6 : decode cX1_allUsed 6 = .ok (.iconst 1, 1) := by decide +kernel
theorem dX1_allUsed_7 : decode cX1_allUsed 7 = .ok (.isub, 1) := by decide +kernel
theorem dX1_allUsed_8 : decode cX1_allUsed 8 = .ok (.ireturn, 1) := by decide +kernel
theorem dX1_isUsed_0 : decode cX1_isUsed 0 = .ok (.iload_n 0, 1) := by decide +kernel
theorem dX1_isUsed_1 : decode cX1_isUsed 1 = .ok (.iload_n 1, 1) := by decide +kernel
theorem dX1_isUsed_2 : decode cX1_isUsed 2 = .ok (.ishr, 1) := by decide +kernel
theorem dX1_isUsed_3 : decode cX1_isUsed 3 = .ok (.iconst 1, 1) := by decide +kernel
theorem dX1_isUsed_4 : decode cX1_isUsed 4 = .ok (.iand, 1) := by decide +kernel
theorem dX1_isUsed_5 : decode cX1_isUsed 5 = .ok (.ifCond .eq 7, 3) := by decide +kernel
theorem dX1_isUsed_8 : decode cX1_isUsed 8 = .ok (.iconst 1, 1) := by decide +kernel
theorem dX1_isUsed_9 : decode cX1_isUsed 9 = .ok (.goto 4, 3) := by decide +kernel
theorem dX1_isUsed_12 : decode cX1_isUsed 12 = .ok (.iconst 0, 1) := by decide +kernel
theorem dX1_isUsed_13 : decode cX1_isUsed 13 = .ok (.ireturn, 1) := by decide +kernel
theorem dX1_fillReaches_0 : decode cX1_fillReaches 0 = .ok (.aload_n 0, 1) := by decide +kernel
theorem dX1_fillReaches_1 : decode cX1_fillReaches 1 = .ok (.invokevirtual 109, 3) := by decide +kernel
theorem dX1_fillReaches_4 : decode cX1_fillReaches 4 = .ok (.istore_n 1, 1) := by decide +kernel
theorem dX1_fillReaches_5 : decode cX1_fillReaches 5 = .ok (.iconst 0, 1) := by decide +kernel
theorem dX1_fillReaches_6 : decode cX1_fillReaches 6 = .ok (.istore_n 2, 1) := by decide +kernel
theorem dX1_fillReaches_7 : decode cX1_fillReaches 7 = .ok (.iload_n 2, 1) := by decide +kernel
theorem dX1_fillReaches_8 : decode cX1_fillReaches 8 = .ok (.iload_n 1, 1) := by decide +kernel
theorem dX1_fillReaches_9 : decode cX1_fillReaches 9 = .ok (.if_icmp .gt 35, 3) := by decide +kernel
theorem dX1_fillReaches_12 : decode cX1_fillReaches 12 = .ok (.aload_n 0, 1) := by decide +kernel
theorem dX1_fillReaches_13 : decode cX1_fillReaches 13 = .ok (.getfield 30, 3) := by decide +kernel
theorem dX1_fillReaches_16 : decode cX1_fillReaches 16 = .ok (.aload_n 0, 1) := by decide +kernel
theorem dX1_fillReaches_17 : decode cX1_fillReaches 17 = .ok (.getfield 45, 3) := by decide +kernel
theorem dX1_fillReaches_20 : decode cX1_fillReaches 20 = .ok (.iload_n 2, 1) := by decide +kernel
theorem dX1_fillReaches_21 : decode cX1_fillReaches 21 = .ok (.invokestatic 60, 3) := by decide +kernel
theorem dX1_fillReaches_24 : decode cX1_fillReaches 24 = .ok (.iload_n 2, 1) := by decide +kernel
theorem dX1_fillReaches_25 : decode cX1_fillReaches 25 = .ok (.iload_n 1, 1) := by decide +kernel
theorem dX1_fillReaches_26 : decode cX1_fillReaches 26 = .ok (.if_icmp .ne 8, 3) := by decide +kernel
theorem dX1_fillReaches_29 : decode cX1_fillReaches 29 = .ok (.ldc 102, 2) := by decide +kernel
theorem dX1_fillReaches_31 : decode cX1_fillReaches 31 = .ok (.goto 4, 3) := by decide +kernel
theorem dX1_fillReaches_34 : decode cX1_fillReaches 34 = .ok (.iconst (-1), 1) := by decide +kernel
theorem dX1_fillReaches_35 : decode cX1_fillReaches 35 = .ok (.invokestatic 76, 3) := by decide +kernel
theorem dX1_fillReaches_38 : decode cX1_fillReaches 38 = .ok (.iinc 2 1, 3) := by decide +kernel
theorem dX1_fillReaches_41 : decode cX1_fillReaches 41 = .ok (.goto (-34), 3) := by decide +kernel
theorem dX1_fillReaches_44 : decode cX1_fillReaches 44 = .ok (.aload_n 0, 1) := by decide +kernel
theorem dX1_fillReaches_45 : decode cX1_fillReaches 45 = .ok (.getfield 45, 3) := by decide +kernel
theorem dX1_fillReaches_48 : decode cX1_fillReaches 48 = .ok (.iconst 1, 1) := by decide +kernel
theorem dX1_fillReaches_49 : decode cX1_fillReaches 49 = .ok (.isub, 1) := by decide +kernel
theorem dX1_fillReaches_50 : decode cX1_fillReaches 50 = .ok (.istore_n 2, 1) := by decide +kernel
theorem dX1_fillReaches_51 : decode cX1_fillReaches 51 = .ok (.iload_n 2, 1) := by decide +kernel
theorem dX1_fillReaches_52 : decode cX1_fillReaches 52 = .ok (.ifCond .lt 40, 3) := by decide +kernel
theorem dX1_fillReaches_55 : decode cX1_fillReaches 55 = .ok (.iconst 0, 1) := by decide +kernel
theorem dX1_fillReaches_56 : decode cX1_fillReaches 56 = .ok (.istore_n 3, 1) := by decide +kernel
theorem dX1_fillReaches_57 : decode cX1_fillReaches 57 = .ok (.iload_n 3, 1) := by decide +kernel
theorem dX1_fillReaches_58 : decode cX1_fillReaches 58 = .ok (.iload_n 1, 1) := by decide +kernel
theorem dX1_fillReaches_59 : decode cX1_fillReaches 59 = .ok (.if_icmp .gt 27, 3) := by decide +kernel
theorem dX1_fillReaches_62 : decode cX1_fillReaches 62 = .ok (.aload_n 0, 1) := by decide +kernel
theorem dX1_fillReaches_63 : decode cX1_fillReaches 63 = .ok (.getfield 30, 3) := by decide +kernel
theorem dX1_fillReaches_66 : decode cX1_fillReaches 66 = .ok (.iload_n 2, 1) := by decide +kernel
theorem dX1_fillReaches_67 : decode cX1_fillReaches 67 = .ok (.iload_n 3, 1) := by decide +kernel
theorem dX1_fillReaches_68 : decode cX1_fillReaches 68 = .ok (.invokestatic 60, 3) := by decide +kernel
theorem dX1_fillReaches_71 : decode cX1_fillReaches 71 = .ok (.aload_n 0, 1) := by decide +kernel
theorem dX1_fillReaches_72 : decode cX1_fillReaches 72 = .ok (.iload_n 2, 1) := by decide +kernel
theorem dX1_fillReaches_73 : decode cX1_fillReaches 73 = .ok (.iload_n 3, 1) := by decide +kernel
theorem dX1_fillReaches_74 : decode cX1_fillReaches 74 = .ok (.invokevirtual 113, 3) := by decide +kernel
theorem dX1_fillReaches_77 : decode cX1_fillReaches 77 = .ok (.invokestatic 76, 3) := by decide +kernel
theorem dX1_fillReaches_80 : decode cX1_fillReaches 80 = .ok (.iinc 3 1, 3) := by decide +kernel
theorem dX1_fillReaches_83 : decode cX1_fillReaches 83 = .ok (.goto (-26), 3) := by decide +kernel
theorem dX1_fillReaches_86 : decode cX1_fillReaches 86 = .ok (.iinc 2 (-1), 3) := by decide +kernel
theorem dX1_fillReaches_89 : decode cX1_fillReaches 89 = .ok (.goto (-38), 3) := by decide +kernel
theorem dX1_fillReaches_92 : decode cX1_fillReaches 92 = .ok (.return_, 1) := by decide +kernel
theorem dX1_reachFrom_0 : decode cX1_reachFrom 0 = .ok (.aload_n 0, 1) := by decide +kernel
theorem dX1_reachFrom_1 : decode cX1_reachFrom 1 = .ok (.getfield 24, 3) := by decide +kernel
theorem dX1_reachFrom_4 : decode cX1_reachFrom 4 = .ok (.iload_n 1, 1) := by decide +kernel
theorem dX1_reachFrom_5 : decode cX1_reachFrom 5 = .ok (.invokestatic 63, 3) := by decide +kernel
theorem dX1_reachFrom_8 : decode cX1_reachFrom 8 = .ok (.iconst 1, 1) := by decide +kernel
theorem dX1_reachFrom_9 : decode cX1_reachFrom 9 = .ok (.if_icmp .ne 7, 3) := by decide +kernel
theorem dX1_reachFrom_12 : decode cX1_reachFrom 12 = .ok (.iconst (-1), 1) := by decide +kernel
theorem dX1_reachFrom_13 : decode cX1_reachFrom 13 = .ok (.goto 17, 3) := by decide +kernel
theorem dX1_reachFrom_16 : decode cX1_reachFrom 16 = .ok (.aload_n 0, 1) := by decide +kernel
theorem dX1_reachFrom_17 : decode cX1_reachFrom 17 = .ok (.getfield 30, 3) := by decide +kernel
theorem dX1_reachFrom_20 : decode cX1_reachFrom 20 = .ok (.iload_n 1, 1) := by decide +kernel
theorem dX1_reachFrom_21 : decode cX1_reachFrom 21 = .ok (.iconst 1, 1) := by decide +kernel
theorem dX1_reachFrom_22 : decode cX1_reachFrom 22 = .ok (.iadd, 1) := by decide +kernel
theorem dX1_reachFrom_23 : decode cX1_reachFrom 23 = .ok (.iload_n 2, 1) := by decide +kernel
theorem dX1_reachFrom_24 : decode cX1_reachFrom 24 = .ok (.invokestatic 60, 3) := by decide +kernel
theorem dX1_reachFrom_27 : decode cX1_reachFrom 27 = .ok (.invokestatic 63, 3) := by decide +kernel
theorem dX1_reachFrom_30 : decode cX1_reachFrom 30 = .ok (.istore_n 3, 1) := by decide +kernel
theorem dX1_reachFrom_31 : decode cX1_reachFrom 31 = .ok (.iconst 0, 1) := by decide +kernel
theorem dX1_reachFrom_32 : decode cX1_reachFrom 32 = .ok (.istore 4, 2) := by decide +kernel
theorem dX1_reachFrom_34 : decode cX1_reachFrom 34 = .ok (.iload 4, 2) := by decide +kernel
theorem dX1_reachFrom_36 : decode cX1_reachFrom 36 = .ok (.aload_n 0, 1) := by decide +kernel
theorem dX1_reachFrom_37 : decode cX1_reachFrom 37 = .ok (.getfield 50, 3) := by decide +kernel
theorem dX1_reachFrom_40 : decode cX1_reachFrom 40 = .ok (.if_icmp .ge 63, 3) := by decide +kernel
theorem dX1_reachFrom_43 : decode cX1_reachFrom 43 = .ok (.iload_n 2, 1) := by decide +kernel
theorem dX1_reachFrom_44 : decode cX1_reachFrom 44 = .ok (.iload 4, 2) := by decide +kernel
theorem dX1_reachFrom_46 : decode cX1_reachFrom 46 = .ok (.invokestatic 116, 3) := by decide +kernel
theorem dX1_reachFrom_49 : decode cX1_reachFrom 49 = .ok (.ifCond .ne 48, 3) := by decide +kernel
theorem dX1_reachFrom_52 : decode cX1_reachFrom 52 = .ok (.aload_n 0, 1) := by decide +kernel
theorem dX1_reachFrom_53 : decode cX1_reachFrom 53 = .ok (.getfield 30, 3) := by decide +kernel
theorem dX1_reachFrom_56 : decode cX1_reachFrom 56 = .ok (.iload_n 1, 1) := by decide +kernel
theorem dX1_reachFrom_57 : decode cX1_reachFrom 57 = .ok (.iconst 1, 1) := by decide +kernel
theorem dX1_reachFrom_58 : decode cX1_reachFrom 58 = .ok (.iadd, 1) := by decide +kernel
theorem dX1_reachFrom_59 : decode cX1_reachFrom 59 = .ok (.iload_n 2, 1) := by decide +kernel
theorem dX1_reachFrom_60 : decode cX1_reachFrom 60 = .ok (.iconst 1, 1) := by decide +kernel
theorem dX1_reachFrom_61 : decode cX1_reachFrom 61 = .ok (.iload 4, 2) := by decide +kernel
theorem dX1_reachFrom_63 : decode cX1_reachFrom 63 = .ok (.ishl, 1) := by decide +kernel
theorem dX1_reachFrom_64 : decode cX1_reachFrom 64 = .ok (.ior, 1) := by decide +kernel
theorem dX1_reachFrom_65 : decode cX1_reachFrom 65 = .ok (.invokestatic 60, 3) := by decide +kernel
theorem dX1_reachFrom_68 : decode cX1_reachFrom 68 = .ok (.invokestatic 63, 3) := by decide +kernel
theorem dX1_reachFrom_71 : decode cX1_reachFrom 71 = .ok (.istore 5, 2) := by decide +kernel
theorem dX1_reachFrom_73 : decode cX1_reachFrom 73 = .ok (.iload_n 3, 1) := by decide +kernel
theorem dX1_reachFrom_74 : decode cX1_reachFrom 74 = .ok (.iload 5, 2) := by decide +kernel
theorem dX1_reachFrom_76 : decode cX1_reachFrom 76 = .ok (.aload_n 0, 1) := by decide +kernel
theorem dX1_reachFrom_77 : decode cX1_reachFrom 77 = .ok (.getfield 17, 3) := by decide +kernel
theorem dX1_reachFrom_80 : decode cX1_reachFrom 80 = .ok (.iload_n 1, 1) := by decide +kernel
theorem dX1_reachFrom_81 : decode cX1_reachFrom 81 = .ok (.bipush 7, 2) := by decide +kernel
theorem dX1_reachFrom_83 : decode cX1_reachFrom 83 = .ok (.imul, 1) := by decide +kernel
theorem dX1_reachFrom_84 : decode cX1_reachFrom 84 = .ok (.iload 4, 2) := by decide +kernel
theorem dX1_reachFrom_86 : decode cX1_reachFrom 86 = .ok (.iadd, 1) := by decide +kernel
theorem dX1_reachFrom_87 : decode cX1_reachFrom 87 = .ok (.invokestatic 63, 3) := by decide +kernel
theorem dX1_reachFrom_90 : decode cX1_reachFrom 90 = .ok (.invokestatic 39, 3) := by decide +kernel
theorem dX1_reachFrom_93 : decode cX1_reachFrom 93 = .ok (.invokestatic 120, 3) := by decide +kernel
theorem dX1_reachFrom_96 : decode cX1_reachFrom 96 = .ok (.istore_n 3, 1) := by decide +kernel
theorem dX1_reachFrom_97 : decode cX1_reachFrom 97 = .ok (.iinc 4 1, 3) := by decide +kernel
theorem dX1_reachFrom_100 : decode cX1_reachFrom 100 = .ok (.goto (-66), 3) := by decide +kernel
theorem dX1_reachFrom_103 : decode cX1_reachFrom 103 = .ok (.iload_n 3, 1) := by decide +kernel
theorem dX1_reachFrom_104 : decode cX1_reachFrom 104 = .ok (.ireturn, 1) := by decide +kernel
theorem dX1_fillChanges_0 : decode cX1_fillChanges 0 = .ok (.aload_n 0, 1) := by decide +kernel
theorem dX1_fillChanges_1 : decode cX1_fillChanges 1 = .ok (.invokevirtual 109, 3) := by decide +kernel
theorem dX1_fillChanges_4 : decode cX1_fillChanges 4 = .ok (.istore_n 1, 1) := by decide +kernel
theorem dX1_fillChanges_5 : decode cX1_fillChanges 5 = .ok (.iconst 0, 1) := by decide +kernel
theorem dX1_fillChanges_6 : decode cX1_fillChanges 6 = .ok (.istore_n 2, 1) := by decide +kernel
theorem dX1_fillChanges_7 : decode cX1_fillChanges 7 = .ok (.iload_n 2, 1) := by decide +kernel
theorem dX1_fillChanges_8 : decode cX1_fillChanges 8 = .ok (.iload_n 1, 1) := by decide +kernel
theorem dX1_fillChanges_9 : decode cX1_fillChanges 9 = .ok (.if_icmp .gt 35, 3) := by decide +kernel
theorem dX1_fillChanges_12 : decode cX1_fillChanges 12 = .ok (.aload_n 0, 1) := by decide +kernel
theorem dX1_fillChanges_13 : decode cX1_fillChanges 13 = .ok (.getfield 30, 3) := by decide +kernel
theorem dX1_fillChanges_16 : decode cX1_fillChanges 16 = .ok (.aload_n 0, 1) := by decide +kernel
theorem dX1_fillChanges_17 : decode cX1_fillChanges 17 = .ok (.getfield 45, 3) := by decide +kernel
theorem dX1_fillChanges_20 : decode cX1_fillChanges 20 = .ok (.iload_n 2, 1) := by decide +kernel
theorem dX1_fillChanges_21 : decode cX1_fillChanges 21 = .ok (.invokestatic 60, 3) := by decide +kernel
theorem dX1_fillChanges_24 : decode cX1_fillChanges 24 = .ok (.iload_n 2, 1) := by decide +kernel
theorem dX1_fillChanges_25 : decode cX1_fillChanges 25 = .ok (.iload_n 1, 1) := by decide +kernel
theorem dX1_fillChanges_26 : decode cX1_fillChanges 26 = .ok (.if_icmp .ne 7, 3) := by decide +kernel
theorem dX1_fillChanges_29 : decode cX1_fillChanges 29 = .ok (.iconst 0, 1) := by decide +kernel
theorem dX1_fillChanges_30 : decode cX1_fillChanges 30 = .ok (.goto 5, 3) := by decide +kernel
theorem dX1_fillChanges_33 : decode cX1_fillChanges 33 = .ok (.bipush 100, 2) := by decide +kernel
theorem dX1_fillChanges_35 : decode cX1_fillChanges 35 = .ok (.invokestatic 76, 3) := by decide +kernel
theorem dX1_fillChanges_38 : decode cX1_fillChanges 38 = .ok (.iinc 2 1, 3) := by decide +kernel
theorem dX1_fillChanges_41 : decode cX1_fillChanges 41 = .ok (.goto (-34), 3) := by decide +kernel
theorem dX1_fillChanges_44 : decode cX1_fillChanges 44 = .ok (.aload_n 0, 1) := by decide +kernel
theorem dX1_fillChanges_45 : decode cX1_fillChanges 45 = .ok (.getfield 45, 3) := by decide +kernel
theorem dX1_fillChanges_48 : decode cX1_fillChanges 48 = .ok (.iconst 1, 1) := by decide +kernel
theorem dX1_fillChanges_49 : decode cX1_fillChanges 49 = .ok (.isub, 1) := by decide +kernel
theorem dX1_fillChanges_50 : decode cX1_fillChanges 50 = .ok (.istore_n 2, 1) := by decide +kernel
theorem dX1_fillChanges_51 : decode cX1_fillChanges 51 = .ok (.iload_n 2, 1) := by decide +kernel
theorem dX1_fillChanges_52 : decode cX1_fillChanges 52 = .ok (.ifCond .lt 40, 3) := by decide +kernel
theorem dX1_fillChanges_55 : decode cX1_fillChanges 55 = .ok (.iconst 0, 1) := by decide +kernel
theorem dX1_fillChanges_56 : decode cX1_fillChanges 56 = .ok (.istore_n 3, 1) := by decide +kernel
theorem dX1_fillChanges_57 : decode cX1_fillChanges 57 = .ok (.iload_n 3, 1) := by decide +kernel
theorem dX1_fillChanges_58 : decode cX1_fillChanges 58 = .ok (.iload_n 1, 1) := by decide +kernel
theorem dX1_fillChanges_59 : decode cX1_fillChanges 59 = .ok (.if_icmp .gt 27, 3) := by decide +kernel
theorem dX1_fillChanges_62 : decode cX1_fillChanges 62 = .ok (.aload_n 0, 1) := by decide +kernel
theorem dX1_fillChanges_63 : decode cX1_fillChanges 63 = .ok (.getfield 30, 3) := by decide +kernel
theorem dX1_fillChanges_66 : decode cX1_fillChanges 66 = .ok (.iload_n 2, 1) := by decide +kernel
theorem dX1_fillChanges_67 : decode cX1_fillChanges 67 = .ok (.iload_n 3, 1) := by decide +kernel
theorem dX1_fillChanges_68 : decode cX1_fillChanges 68 = .ok (.invokestatic 60, 3) := by decide +kernel
theorem dX1_fillChanges_71 : decode cX1_fillChanges 71 = .ok (.aload_n 0, 1) := by decide +kernel
theorem dX1_fillChanges_72 : decode cX1_fillChanges 72 = .ok (.iload_n 2, 1) := by decide +kernel
theorem dX1_fillChanges_73 : decode cX1_fillChanges 73 = .ok (.iload_n 3, 1) := by decide +kernel
theorem dX1_fillChanges_74 : decode cX1_fillChanges 74 = .ok (.invokevirtual 123, 3) := by decide +kernel
theorem dX1_fillChanges_77 : decode cX1_fillChanges 77 = .ok (.invokestatic 76, 3) := by decide +kernel
theorem dX1_fillChanges_80 : decode cX1_fillChanges 80 = .ok (.iinc 3 1, 3) := by decide +kernel
theorem dX1_fillChanges_83 : decode cX1_fillChanges 83 = .ok (.goto (-26), 3) := by decide +kernel
theorem dX1_fillChanges_86 : decode cX1_fillChanges 86 = .ok (.iinc 2 (-1), 3) := by decide +kernel
theorem dX1_fillChanges_89 : decode cX1_fillChanges 89 = .ok (.goto (-38), 3) := by decide +kernel
theorem dX1_fillChanges_92 : decode cX1_fillChanges 92 = .ok (.return_, 1) := by decide +kernel
theorem dX1_fewestFrom_0 : decode cX1_fewestFrom 0 = .ok (.aload_n 0, 1) := by decide +kernel
theorem dX1_fewestFrom_1 : decode cX1_fewestFrom 1 = .ok (.getfield 24, 3) := by decide +kernel
theorem dX1_fewestFrom_4 : decode cX1_fewestFrom 4 = .ok (.iload_n 1, 1) := by decide +kernel
theorem dX1_fewestFrom_5 : decode cX1_fewestFrom 5 = .ok (.invokestatic 63, 3) := by decide +kernel
theorem dX1_fewestFrom_8 : decode cX1_fewestFrom 8 = .ok (.iconst 1, 1) := by decide +kernel
theorem dX1_fewestFrom_9 : decode cX1_fewestFrom 9 = .ok (.if_icmp .ne 8, 3) := by decide +kernel
theorem dX1_fewestFrom_12 : decode cX1_fewestFrom 12 = .ok (.bipush 100, 2) := by decide +kernel
theorem dX1_fewestFrom_14 : decode cX1_fewestFrom 14 = .ok (.goto 17, 3) := by decide +kernel
theorem dX1_fewestFrom_17 : decode cX1_fewestFrom 17 = .ok (.aload_n 0, 1) := by decide +kernel
theorem dX1_fewestFrom_18 : decode cX1_fewestFrom 18 = .ok (.getfield 30, 3) := by decide +kernel
theorem dX1_fewestFrom_21 : decode cX1_fewestFrom 21 = .ok (.iload_n 1, 1) := by decide +kernel
theorem dX1_fewestFrom_22 : decode cX1_fewestFrom 22 = .ok (.iconst 1, 1) := by decide +kernel
theorem dX1_fewestFrom_23 : decode cX1_fewestFrom 23 = .ok (.iadd, 1) := by decide +kernel
theorem dX1_fewestFrom_24 : decode cX1_fewestFrom 24 = .ok (.iload_n 2, 1) := by decide +kernel
theorem dX1_fewestFrom_25 : decode cX1_fewestFrom 25 = .ok (.invokestatic 60, 3) := by decide +kernel
theorem dX1_fewestFrom_28 : decode cX1_fewestFrom 28 = .ok (.invokestatic 63, 3) := by decide +kernel
theorem dX1_fewestFrom_31 : decode cX1_fewestFrom 31 = .ok (.istore_n 3, 1) := by decide +kernel
theorem dX1_fewestFrom_32 : decode cX1_fewestFrom 32 = .ok (.iconst 0, 1) := by decide +kernel
theorem dX1_fewestFrom_33 : decode cX1_fewestFrom 33 = .ok (.istore 4, 2) := by decide +kernel
theorem dX1_fewestFrom_35 : decode cX1_fewestFrom 35 = .ok (.iload 4, 2) := by decide +kernel
theorem dX1_fewestFrom_37 : decode cX1_fewestFrom 37 = .ok (.aload_n 0, 1) := by decide +kernel
theorem dX1_fewestFrom_38 : decode cX1_fewestFrom 38 = .ok (.getfield 50, 3) := by decide +kernel
theorem dX1_fewestFrom_41 : decode cX1_fewestFrom 41 = .ok (.if_icmp .ge 22, 3) := by decide +kernel
theorem dX1_fewestFrom_44 : decode cX1_fewestFrom 44 = .ok (.iload_n 3, 1) := by decide +kernel
theorem dX1_fewestFrom_45 : decode cX1_fewestFrom 45 = .ok (.aload_n 0, 1) := by decide +kernel
theorem dX1_fewestFrom_46 : decode cX1_fewestFrom 46 = .ok (.iload_n 1, 1) := by decide +kernel
theorem dX1_fewestFrom_47 : decode cX1_fewestFrom 47 = .ok (.iload_n 2, 1) := by decide +kernel
theorem dX1_fewestFrom_48 : decode cX1_fewestFrom 48 = .ok (.iload 4, 2) := by decide +kernel
theorem dX1_fewestFrom_50 : decode cX1_fewestFrom 50 = .ok (.invokevirtual 126, 3) := by decide +kernel
theorem dX1_fewestFrom_53 : decode cX1_fewestFrom 53 = .ok (.invokestatic 39, 3) := by decide +kernel
theorem dX1_fewestFrom_56 : decode cX1_fewestFrom 56 = .ok (.istore_n 3, 1) := by decide +kernel
theorem dX1_fewestFrom_57 : decode cX1_fewestFrom 57 = .ok (.iinc 4 1, 3) := by decide +kernel
theorem dX1_fewestFrom_60 : decode cX1_fewestFrom 60 = .ok (.goto (-25), 3) := by decide +kernel
theorem dX1_fewestFrom_63 : decode cX1_fewestFrom 63 = .ok (.iload_n 3, 1) := by decide +kernel
theorem dX1_fewestFrom_64 : decode cX1_fewestFrom 64 = .ok (.ireturn, 1) := by decide +kernel
theorem dX1_changesWith_0 : decode cX1_changesWith 0 = .ok (.iload_n 2, 1) := by decide +kernel
theorem dX1_changesWith_1 : decode cX1_changesWith 1 = .ok (.iload_n 3, 1) := by decide +kernel
theorem dX1_changesWith_2 : decode cX1_changesWith 2 = .ok (.invokestatic 116, 3) := by decide +kernel
theorem dX1_changesWith_5 : decode cX1_changesWith 5 = .ok (.ifCond .ne 23, 3) := by decide +kernel
theorem dX1_changesWith_8 : decode cX1_changesWith 8 = .ok (.aload_n 0, 1) := by decide +kernel
theorem dX1_changesWith_9 : decode cX1_changesWith 9 = .ok (.getfield 17, 3) := by decide +kernel
theorem dX1_changesWith_12 : decode cX1_changesWith 12 = .ok (.iload_n 1, 1) := by decide +kernel
theorem dX1_changesWith_13 : decode cX1_changesWith 13 = .ok (.bipush 7, 2) := by decide +kernel
theorem dX1_changesWith_15 : decode cX1_changesWith 15 = .ok (.imul, 1) := by decide +kernel
theorem dX1_changesWith_16 : decode cX1_changesWith 16 = .ok (.iload_n 3, 1) := by decide +kernel
theorem dX1_changesWith_17 : decode cX1_changesWith 17 = .ok (.iadd, 1) := by decide +kernel
theorem dX1_changesWith_18 : decode cX1_changesWith 18 = .ok (.invokestatic 63, 3) := by decide +kernel
theorem dX1_changesWith_21 : decode cX1_changesWith 21 = .ok (.aload_n 0, 1) := by decide +kernel
theorem dX1_changesWith_22 : decode cX1_changesWith 22 = .ok (.getfield 67, 3) := by decide +kernel
theorem dX1_changesWith_25 : decode cX1_changesWith 25 = .ok (.if_icmp .ge 6, 3) := by decide +kernel
theorem dX1_changesWith_28 : decode cX1_changesWith 28 = .ok (.bipush 100, 2) := by decide +kernel
theorem dX1_changesWith_30 : decode cX1_changesWith 30 = .ok (.ireturn, 1) := by decide +kernel
theorem dX1_changesWith_31 : decode cX1_changesWith 31 = .ok (.aload_n 0, 1) := by decide +kernel
theorem dX1_changesWith_32 : decode cX1_changesWith 32 = .ok (.getfield 21, 3) := by decide +kernel
theorem dX1_changesWith_35 : decode cX1_changesWith 35 = .ok (.iload_n 1, 1) := by decide +kernel
theorem dX1_changesWith_36 : decode cX1_changesWith 36 = .ok (.invokestatic 63, 3) := by decide +kernel
theorem dX1_changesWith_39 : decode cX1_changesWith 39 = .ok (.iload_n 3, 1) := by decide +kernel
theorem dX1_changesWith_40 : decode cX1_changesWith 40 = .ok (.if_icmp .ne 7, 3) := by decide +kernel
theorem dX1_changesWith_43 : decode cX1_changesWith 43 = .ok (.iconst 0, 1) := by decide +kernel
theorem dX1_changesWith_44 : decode cX1_changesWith 44 = .ok (.goto 4, 3) := by decide +kernel
theorem dX1_changesWith_47 : decode cX1_changesWith 47 = .ok (.iconst 1, 1) := by decide +kernel
theorem dX1_changesWith_48 : decode cX1_changesWith 48 = .ok (.istore 4, 2) := by decide +kernel
theorem dX1_changesWith_50 : decode cX1_changesWith 50 = .ok (.iload 4, 2) := by decide +kernel
theorem dX1_changesWith_52 : decode cX1_changesWith 52 = .ok (.aload_n 0, 1) := by decide +kernel
theorem dX1_changesWith_53 : decode cX1_changesWith 53 = .ok (.getfield 30, 3) := by decide +kernel
theorem dX1_changesWith_56 : decode cX1_changesWith 56 = .ok (.iload_n 1, 1) := by decide +kernel
theorem dX1_changesWith_57 : decode cX1_changesWith 57 = .ok (.iconst 1, 1) := by decide +kernel
theorem dX1_changesWith_58 : decode cX1_changesWith 58 = .ok (.iadd, 1) := by decide +kernel
theorem dX1_changesWith_59 : decode cX1_changesWith 59 = .ok (.iload_n 2, 1) := by decide +kernel
theorem dX1_changesWith_60 : decode cX1_changesWith 60 = .ok (.iconst 1, 1) := by decide +kernel
theorem dX1_changesWith_61 : decode cX1_changesWith 61 = .ok (.iload_n 3, 1) := by decide +kernel
theorem dX1_changesWith_62 : decode cX1_changesWith 62 = .ok (.ishl, 1) := by decide +kernel
theorem dX1_changesWith_63 : decode cX1_changesWith 63 = .ok (.ior, 1) := by decide +kernel
theorem dX1_changesWith_64 : decode cX1_changesWith 64 = .ok (.invokestatic 60, 3) := by decide +kernel
theorem dX1_changesWith_67 : decode cX1_changesWith 67 = .ok (.invokestatic 63, 3) := by decide +kernel
theorem dX1_changesWith_70 : decode cX1_changesWith 70 = .ok (.iadd, 1) := by decide +kernel
theorem dX1_changesWith_71 : decode cX1_changesWith 71 = .ok (.ireturn, 1) := by decide +kernel
theorem dX1_choose_0 : decode cX1_choose 0 = .ok (.aload_n 0, 1) := by decide +kernel
theorem dX1_choose_1 : decode cX1_choose 1 = .ok (.getfield 30, 3) := by decide +kernel
theorem dX1_choose_4 : decode cX1_choose 4 = .ok (.iload_n 1, 1) := by decide +kernel
theorem dX1_choose_5 : decode cX1_choose 5 = .ok (.iload_n 2, 1) := by decide +kernel
theorem dX1_choose_6 : decode cX1_choose 6 = .ok (.invokestatic 60, 3) := by decide +kernel
theorem dX1_choose_9 : decode cX1_choose 9 = .ok (.invokestatic 63, 3) := by decide +kernel
theorem dX1_choose_12 : decode cX1_choose 12 = .ok (.istore_n 3, 1) := by decide +kernel
theorem dX1_choose_13 : decode cX1_choose 13 = .ok (.iconst 0, 1) := by decide +kernel
theorem dX1_choose_14 : decode cX1_choose 14 = .ok (.istore 4, 2) := by decide +kernel
theorem dX1_choose_16 : decode cX1_choose 16 = .ok (.iload 4, 2) := by decide +kernel
theorem dX1_choose_18 : decode cX1_choose 18 = .ok (.aload_n 0, 1) := by decide +kernel
theorem dX1_choose_19 : decode cX1_choose 19 = .ok (.getfield 50, 3) := by decide +kernel
theorem dX1_choose_22 : decode cX1_choose 22 = .ok (.if_icmp .ge 24, 3) := by decide +kernel
theorem dX1_choose_25 : decode cX1_choose 25 = .ok (.aload_n 0, 1) := by decide +kernel
theorem dX1_choose_26 : decode cX1_choose 26 = .ok (.iload_n 1, 1) := by decide +kernel
theorem dX1_choose_27 : decode cX1_choose 27 = .ok (.iload_n 2, 1) := by decide +kernel
theorem dX1_choose_28 : decode cX1_choose 28 = .ok (.iload 4, 2) := by decide +kernel
theorem dX1_choose_30 : decode cX1_choose 30 = .ok (.invokevirtual 126, 3) := by decide +kernel
theorem dX1_choose_33 : decode cX1_choose 33 = .ok (.iload_n 3, 1) := by decide +kernel
theorem dX1_choose_34 : decode cX1_choose 34 = .ok (.if_icmp .ne 6, 3) := by decide +kernel
theorem dX1_choose_37 : decode cX1_choose 37 = .ok (.iload 4, 2) := by decide +kernel
theorem dX1_choose_39 : decode cX1_choose 39 = .ok (.ireturn, 1) := by decide +kernel
theorem dX1_choose_40 : decode cX1_choose 40 = .ok (.iinc 4 1, 3) := by decide +kernel
theorem dX1_choose_43 : decode cX1_choose 43 = .ok (.goto (-27), 3) := by decide +kernel
theorem dX1_choose_46 : decode cX1_choose 46 = .ok (.iconst (-1), 1) := by decide +kernel
theorem dX1_choose_47 : decode cX1_choose 47 = .ok (.ireturn, 1) := by decide +kernel
