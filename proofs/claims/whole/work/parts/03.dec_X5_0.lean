theorem dX5_init_0 : decode cX5_init 0 = .ok (.aload_n 0, 1) := by decide +kernel
theorem dX5_init_1 : decode cX5_init 1 = .ok (.invokespecial 1, 3) := by decide +kernel
theorem dX5_init_4 : decode cX5_init 4 = .ok (.aload_n 0, 1) := by decide +kernel
theorem dX5_init_5 : decode cX5_init 5 = .ok (.iconst 5, 1) := by decide +kernel
theorem dX5_init_6 : decode cX5_init 6 = .ok (.anewarray 9, 3) := by decide +kernel
theorem dX5_init_9 : decode cX5_init 9 = .ok (.putfield 11, 3) := by decide +kernel
theorem dX5_init_12 : decode cX5_init 12 = .ok (.aload_n 0, 1) := by decide +kernel
theorem dX5_init_13 : decode cX5_init 13 = .ok (.bipush 40, 2) := by decide +kernel
theorem dX5_init_15 : decode cX5_init 15 = .ok (.anewarray 15, 3) := by decide +kernel
theorem dX5_init_18 : decode cX5_init 18 = .ok (.putfield 17, 3) := by decide +kernel
theorem dX5_init_21 : decode cX5_init 21 = .ok (.aload_n 0, 1) := by decide +kernel
theorem dX5_init_22 : decode cX5_init 22 = .ok (.getstatic 21, 3) := by decide +kernel
theorem dX5_init_25 : decode cX5_init 25 = .ok (.invokevirtual 25, 3) := by decide +kernel
theorem dX5_init_28 : decode cX5_init 28 = .ok (.checkcast 26, 3) := by decide +kernel
theorem dX5_init_31 : decode cX5_init 31 = .ok (.putfield 30, 3) := by decide +kernel
theorem dX5_init_34 : decode cX5_init 34 = .ok (.aload_n 0, 1) := by decide +kernel
theorem dX5_init_35 : decode cX5_init 35 = .ok (.getstatic 33, 3) := by decide +kernel
theorem dX5_init_38 : decode cX5_init 38 = .ok (.invokevirtual 25, 3) := by decide +kernel
theorem dX5_init_41 : decode cX5_init 41 = .ok (.checkcast 26, 3) := by decide +kernel
theorem dX5_init_44 : decode cX5_init 44 = .ok (.putfield 36, 3) := by decide +kernel
theorem dX5_init_47 : decode cX5_init 47 = .ok (.aload_n 0, 1) := by decide +kernel
theorem dX5_init_48 : decode cX5_init 48 = .ok (.bipush 7, 2) := by decide +kernel
theorem dX5_init_50 : decode cX5_init 50 = .ok (.newarray .int, 2) := by decide +kernel
theorem dX5_init_52 : decode cX5_init 52 = .ok (.putfield 39, 3) := by decide +kernel
theorem dX5_init_55 : decode cX5_init 55 = .ok (.aload_n 0, 1) := by decide +kernel
theorem dX5_init_56 : decode cX5_init 56 = .ok (.new 42, 3) := by decide +kernel
theorem dX5_init_59 : decode cX5_init 59 = .ok (.dup, 1) := by decide +kernel
theorem dX5_init_60 : decode cX5_init 60 = .ok (.invokespecial 44, 3) := by decide +kernel
theorem dX5_init_63 : decode cX5_init 63 = .ok (.putfield 45, 3) := by decide +kernel
theorem dX5_init_66 : decode cX5_init 66 = .ok (.aload_n 0, 1) := by decide +kernel
theorem dX5_init_67 : decode cX5_init 67 = .ok (.new 49, 3) := by decide +kernel
theorem dX5_init_70 : decode cX5_init 70 = .ok (.dup, 1) := by decide +kernel
theorem dX5_init_71 : decode cX5_init 71 = .ok (.invokespecial 51, 3) := by decide +kernel
theorem dX5_init_74 : decode cX5_init 74 = .ok (.putfield 52, 3) := by decide +kernel
theorem dX5_init_77 : decode cX5_init 77 = .ok (.aload_n 0, 1) := by decide +kernel
theorem dX5_init_78 : decode cX5_init 78 = .ok (.new 56, 3) := by decide +kernel
theorem dX5_init_81 : decode cX5_init 81 = .ok (.dup, 1) := by decide +kernel
theorem dX5_init_82 : decode cX5_init 82 = .ok (.invokespecial 58, 3) := by decide +kernel
theorem dX5_init_85 : decode cX5_init 85 = .ok (.putfield 59, 3) := by decide +kernel
theorem dX5_init_88 : decode cX5_init 88 = .ok (.aload_n 0, 1) := by decide +kernel
theorem dX5_init_89 : decode cX5_init 89 = .ok (.bipush 20, 2) := by decide +kernel
theorem dX5_init_91 : decode cX5_init 91 = .ok (.putfield 63, 3) := by decide +kernel
theorem dX5_init_94 : decode cX5_init 94 = .ok (.return_, 1) := by decide +kernel
theorem dX5_wagon_0 : decode cX5_wagon 0 = .ok (.aload_n 0, 1) := by decide +kernel
theorem dX5_wagon_1 : decode cX5_wagon 1 = .ok (.getfield 67, 3) := by decide +kernel
theorem dX5_wagon_4 : decode cX5_wagon 4 = .ok (.ifCond .lt 15, 3) := by decide +kernel
theorem dX5_wagon_7 : decode cX5_wagon 7 = .ok (.aload_n 0, 1) := by decide +kernel
theorem dX5_wagon_8 : decode cX5_wagon 8 = .ok (.getfield 67, 3) := by decide +kernel
theorem dX5_wagon_11 : decode cX5_wagon 11 = .ok (.aload_n 0, 1) := by decide +kernel
theorem dX5_wagon_12 : decode cX5_wagon 12 = .ok (.getfield 11, 3) := by decide +kernel
theorem dX5_wagon_15 : decode cX5_wagon 15 = .ok (.arraylength, 1) := by decide +kernel
theorem dX5_wagon_16 : decode cX5_wagon 16 = .ok (.if_icmp .lt 10, 3) := by decide +kernel
theorem dX5_wagon_19 : decode cX5_wagon 19 = .ok (.aload_n 0, 1) := by decide +kernel
theorem dX5_wagon_20 : decode cX5_wagon 20 = .ok (.bipush (-6), 2) := by decide +kernel
theorem dX5_wagon_22 : decode cX5_wagon 22 = .ok (.invokevirtual 70, 3) := by decide +kernel
theorem dX5_wagon_25 : decode cX5_wagon 25 = .ok (.ireturn, 1) := by decide +kernel
theorem dX5_wagon_26 : decode cX5_wagon 26 = .ok (.aload_n 0, 1) := by decide +kernel
theorem dX5_wagon_27 : decode cX5_wagon 27 = .ok (.getfield 67, 3) := by decide +kernel
theorem dX5_wagon_30 : decode cX5_wagon 30 = .ok (.istore_n 1, 1) := by decide +kernel
theorem dX5_wagon_31 : decode cX5_wagon 31 = .ok (.aload_n 0, 1) := by decide +kernel
theorem dX5_wagon_32 : decode cX5_wagon 32 = .ok (.getfield 11, 3) := by decide +kernel
theorem dX5_wagon_35 : decode cX5_wagon 35 = .ok (.iload_n 1, 1) := by decide +kernel
theorem dX5_wagon_36 : decode cX5_wagon 36 = .ok (.new 9, 3) := by decide +kernel
theorem dX5_wagon_39 : decode cX5_wagon 39 = .ok (.dup, 1) := by decide +kernel
theorem dX5_wagon_40 : decode cX5_wagon 40 = .ok (.iload_n 1, 1) := by decide +kernel
theorem dX5_wagon_41 : decode cX5_wagon 41 = .ok (.invokespecial 74, 3) := by decide +kernel
theorem dX5_wagon_44 : decode cX5_wagon 44 = .ok (.aastore, 1) := by decide +kernel
theorem dX5_wagon_45 : decode cX5_wagon 45 = .ok (.aload_n 0, 1) := by decide +kernel
theorem dX5_wagon_46 : decode cX5_wagon 46 = .ok (.iload_n 1, 1) := by decide +kernel
theorem dX5_wagon_47 : decode cX5_wagon 47 = .ok (.iconst 1, 1) := by decide +kernel
theorem dX5_wagon_48 : decode cX5_wagon 48 = .ok (.iadd, 1) := by decide +kernel
theorem dX5_wagon_49 : decode cX5_wagon 49 = .ok (.putfield 67, 3) := by decide +kernel
theorem dX5_wagon_52 : decode cX5_wagon 52 = .ok (.iload_n 1, 1) := by decide +kernel
theorem dX5_wagon_53 : decode cX5_wagon 53 = .ok (.ireturn, 1) := by decide +kernel
theorem dX5_place_0 : decode cX5_place 0 = .ok (.aload_n 0, 1) := by decide +kernel
theorem dX5_place_1 : decode cX5_place 1 = .ok (.iload_n 1, 1) := by decide +kernel
theorem dX5_place_2 : decode cX5_place 2 = .ok (.invokevirtual 77, 3) := by decide +kernel
theorem dX5_place_5 : decode cX5_place 5 = .ok (.astore_n 3, 1) := by decide +kernel
theorem dX5_place_6 : decode cX5_place 6 = .ok (.aload_n 3, 1) := by decide +kernel
theorem dX5_place_7 : decode cX5_place 7 = .ok (.ifnull 10, 3) := by decide +kernel
theorem dX5_place_10 : decode cX5_place 10 = .ok (.iload_n 2, 1) := by decide +kernel
theorem dX5_place_11 : decode cX5_place 11 = .ok (.invokestatic 81, 3) := by decide +kernel
theorem dX5_place_14 : decode cX5_place 14 = .ok (.ifCond .ne 9, 3) := by decide +kernel
theorem dX5_place_17 : decode cX5_place 17 = .ok (.aload_n 0, 1) := by decide +kernel
theorem dX5_place_18 : decode cX5_place 18 = .ok (.iconst (-1), 1) := by decide +kernel
theorem dX5_place_19 : decode cX5_place 19 = .ok (.invokevirtual 70, 3) := by decide +kernel
theorem dX5_place_22 : decode cX5_place 22 = .ok (.ireturn, 1) := by decide +kernel
theorem dX5_place_23 : decode cX5_place 23 = .ok (.aload_n 3, 1) := by decide +kernel
theorem dX5_place_24 : decode cX5_place 24 = .ok (.invokevirtual 85, 3) := by decide +kernel
theorem dX5_place_27 : decode cX5_place 27 = .ok (.ifCond .eq 10, 3) := by decide +kernel
theorem dX5_place_30 : decode cX5_place 30 = .ok (.aload_n 0, 1) := by decide +kernel
theorem dX5_place_31 : decode cX5_place 31 = .ok (.bipush (-6), 2) := by decide +kernel
theorem dX5_place_33 : decode cX5_place 33 = .ok (.invokevirtual 70, 3) := by decide +kernel
theorem dX5_place_36 : decode cX5_place 36 = .ok (.ireturn, 1) := by decide +kernel
theorem dX5_place_37 : decode cX5_place 37 = .ok (.aload_n 3, 1) := by decide +kernel
theorem dX5_place_38 : decode cX5_place 38 = .ok (.iload_n 2, 1) := by decide +kernel
theorem dX5_place_39 : decode cX5_place 39 = .ok (.invokevirtual 89, 3) := by decide +kernel
theorem dX5_place_42 : decode cX5_place 42 = .ok (.ireturn, 1) := by decide +kernel
theorem dX5_least_0 : decode cX5_least 0 = .ok (.iload_n 1, 1) := by decide +kernel
theorem dX5_least_1 : decode cX5_least 1 = .ok (.invokestatic 81, 3) := by decide +kernel
theorem dX5_least_4 : decode cX5_least 4 = .ok (.ifCond .ne 9, 3) := by decide +kernel
theorem dX5_least_7 : decode cX5_least 7 = .ok (.aload_n 0, 1) := by decide +kernel
theorem dX5_least_8 : decode cX5_least 8 = .ok (.iconst (-1), 1) := by decide +kernel
theorem dX5_least_9 : decode cX5_least 9 = .ok (.invokevirtual 70, 3) := by decide +kernel
theorem dX5_least_12 : decode cX5_least 12 = .ok (.ireturn, 1) := by decide +kernel
theorem dX5_least_13 : decode cX5_least 13 = .ok (.iload_n 2, 1) := by decide +kernel
theorem dX5_least_14 : decode cX5_least 14 = .ok (.iconst 0, 1) := by decide +kernel
theorem dX5_least_15 : decode cX5_least 15 = .ok (.bipush 100, 2) := by decide +kernel
theorem dX5_least_17 : decode cX5_least 17 = .ok (.invokestatic 92, 3) := by decide +kernel
theorem dX5_least_20 : decode cX5_least 20 = .ok (.istore_n 3, 1) := by decide +kernel
theorem dX5_least_21 : decode cX5_least 21 = .ok (.iload_n 3, 1) := by decide +kernel
theorem dX5_least_22 : decode cX5_least 22 = .ok (.ifCond .eq 9, 3) := by decide +kernel
theorem dX5_least_25 : decode cX5_least 25 = .ok (.aload_n 0, 1) := by decide +kernel
theorem dX5_least_26 : decode cX5_least 26 = .ok (.iload_n 3, 1) := by decide +kernel
theorem dX5_least_27 : decode cX5_least 27 = .ok (.invokevirtual 70, 3) := by decide +kernel
theorem dX5_least_30 : decode cX5_least 30 = .ok (.ireturn, 1) := by decide +kernel
theorem dX5_least_31 : decode cX5_least 31 = .ok (.aload_n 0, 1) := by decide +kernel
theorem dX5_least_32 : decode cX5_least 32 = .ok (.getfield 30, 3) := by decide +kernel
theorem dX5_least_35 : decode cX5_least 35 = .ok (.iload_n 1, 1) := by decide +kernel
theorem dX5_least_36 : decode cX5_least 36 = .ok (.invokestatic 96, 3) := by decide +kernel
theorem dX5_least_39 : decode cX5_least 39 = .ok (.istore 4, 2) := by decide +kernel
theorem dX5_least_41 : decode cX5_least 41 = .ok (.aload_n 0, 1) := by decide +kernel
theorem dX5_least_42 : decode cX5_least 42 = .ok (.getfield 30, 3) := by decide +kernel
theorem dX5_least_45 : decode cX5_least 45 = .ok (.iload_n 1, 1) := by decide +kernel
theorem dX5_least_46 : decode cX5_least 46 = .ok (.iload_n 2, 1) := by decide +kernel
theorem dX5_least_47 : decode cX5_least 47 = .ok (.invokestatic 100, 3) := by decide +kernel
theorem dX5_least_50 : decode cX5_least 50 = .ok (.iload 4, 2) := by decide +kernel
theorem dX5_least_52 : decode cX5_least 52 = .ok (.ireturn, 1) := by decide +kernel
theorem dX5_apart_0 : decode cX5_apart 0 = .ok (.iload_n 1, 1) := by decide +kernel
theorem dX5_apart_1 : decode cX5_apart 1 = .ok (.iconst 0, 1) := by decide +kernel
theorem dX5_apart_2 : decode cX5_apart 2 = .ok (.bipush 100, 2) := by decide +kernel
theorem dX5_apart_4 : decode cX5_apart 4 = .ok (.invokestatic 92, 3) := by decide +kernel
theorem dX5_apart_7 : decode cX5_apart 7 = .ok (.istore_n 2, 1) := by decide +kernel
theorem dX5_apart_8 : decode cX5_apart 8 = .ok (.iload_n 2, 1) := by decide +kernel
theorem dX5_apart_9 : decode cX5_apart 9 = .ok (.ifCond .eq 9, 3) := by decide +kernel
theorem dX5_apart_12 : decode cX5_apart 12 = .ok (.aload_n 0, 1) := by decide +kernel
theorem dX5_apart_13 : decode cX5_apart 13 = .ok (.iload_n 2, 1) := by decide +kernel
theorem dX5_apart_14 : decode cX5_apart 14 = .ok (.invokevirtual 70, 3) := by decide +kernel
theorem dX5_apart_17 : decode cX5_apart 17 = .ok (.ireturn, 1) := by decide +kernel
theorem dX5_apart_18 : decode cX5_apart 18 = .ok (.aload_n 0, 1) := by decide +kernel
theorem dX5_apart_19 : decode cX5_apart 19 = .ok (.getfield 63, 3) := by decide +kernel
theorem dX5_apart_22 : decode cX5_apart 22 = .ok (.istore_n 3, 1) := by decide +kernel
theorem dX5_apart_23 : decode cX5_apart 23 = .ok (.aload_n 0, 1) := by decide +kernel
theorem dX5_apart_24 : decode cX5_apart 24 = .ok (.iload_n 1, 1) := by decide +kernel
theorem dX5_apart_25 : decode cX5_apart 25 = .ok (.putfield 63, 3) := by decide +kernel
theorem dX5_apart_28 : decode cX5_apart 28 = .ok (.iload_n 3, 1) := by decide +kernel
theorem dX5_apart_29 : decode cX5_apart 29 = .ok (.ireturn, 1) := by decide +kernel
theorem dX5_maker_0 : decode cX5_maker 0 = .ok (.iload_n 1, 1) := by decide +kernel
theorem dX5_maker_1 : decode cX5_maker 1 = .ok (.invokestatic 104, 3) := by decide +kernel
theorem dX5_maker_4 : decode cX5_maker 4 = .ok (.ifCond .ne 9, 3) := by decide +kernel
theorem dX5_maker_7 : decode cX5_maker 7 = .ok (.aload_n 0, 1) := by decide +kernel
theorem dX5_maker_8 : decode cX5_maker 8 = .ok (.iconst (-1), 1) := by decide +kernel
theorem dX5_maker_9 : decode cX5_maker 9 = .ok (.invokevirtual 70, 3) := by decide +kernel
theorem dX5_maker_12 : decode cX5_maker 12 = .ok (.ireturn, 1) := by decide +kernel
theorem dX5_maker_13 : decode cX5_maker 13 = .ok (.iload_n 2, 1) := by decide +kernel
theorem dX5_maker_14 : decode cX5_maker 14 = .ok (.iconst 0, 1) := by decide +kernel
theorem dX5_maker_15 : decode cX5_maker 15 = .ok (.sipush 1000, 3) := by decide +kernel
theorem dX5_maker_18 : decode cX5_maker 18 = .ok (.invokestatic 92, 3) := by decide +kernel
theorem dX5_maker_21 : decode cX5_maker 21 = .ok (.istore_n 3, 1) := by decide +kernel
theorem dX5_maker_22 : decode cX5_maker 22 = .ok (.iload_n 3, 1) := by decide +kernel
theorem dX5_maker_23 : decode cX5_maker 23 = .ok (.ifCond .eq 9, 3) := by decide +kernel
theorem dX5_maker_26 : decode cX5_maker 26 = .ok (.aload_n 0, 1) := by decide +kernel
theorem dX5_maker_27 : decode cX5_maker 27 = .ok (.iload_n 3, 1) := by decide +kernel
theorem dX5_maker_28 : decode cX5_maker 28 = .ok (.invokevirtual 70, 3) := by decide +kernel
theorem dX5_maker_31 : decode cX5_maker 31 = .ok (.ireturn, 1) := by decide +kernel
theorem dX5_maker_32 : decode cX5_maker 32 = .ok (.aload_n 0, 1) := by decide +kernel
theorem dX5_maker_33 : decode cX5_maker 33 = .ok (.getfield 36, 3) := by decide +kernel
theorem dX5_maker_36 : decode cX5_maker 36 = .ok (.iload_n 1, 1) := by decide +kernel
theorem dX5_maker_37 : decode cX5_maker 37 = .ok (.invokestatic 96, 3) := by decide +kernel
theorem dX5_maker_40 : decode cX5_maker 40 = .ok (.istore 4, 2) := by decide +kernel
theorem dX5_maker_42 : decode cX5_maker 42 = .ok (.aload_n 0, 1) := by decide +kernel
theorem dX5_maker_43 : decode cX5_maker 43 = .ok (.getfield 36, 3) := by decide +kernel
theorem dX5_maker_46 : decode cX5_maker 46 = .ok (.iload_n 1, 1) := by decide +kernel
theorem dX5_maker_47 : decode cX5_maker 47 = .ok (.iload_n 2, 1) := by decide +kernel
theorem dX5_maker_48 : decode cX5_maker 48 = .ok (.invokestatic 100, 3) := by decide +kernel
theorem dX5_maker_51 : decode cX5_maker 51 = .ok (.aload_n 0, 1) := by decide +kernel
theorem dX5_maker_52 : decode cX5_maker 52 = .ok (.iload_n 1, 1) := by decide +kernel
theorem dX5_maker_53 : decode cX5_maker 53 = .ok (.invokevirtual 107, 3) := by decide +kernel
theorem dX5_maker_56 : decode cX5_maker 56 = .ok (.iload 4, 2) := by decide +kernel
theorem dX5_maker_58 : decode cX5_maker 58 = .ok (.ireturn, 1) := by decide +kernel
theorem dX5_buy_0 : decode cX5_buy 0 = .ok (.iload_n 1, 1) := by decide +kernel
theorem dX5_buy_1 : decode cX5_buy 1 = .ok (.invokestatic 104, 3) := by decide +kernel
theorem dX5_buy_4 : decode cX5_buy 4 = .ok (.ifCond .ne 9, 3) := by decide +kernel
theorem dX5_buy_7 : decode cX5_buy 7 = .ok (.aload_n 0, 1) := by decide +kernel
theorem dX5_buy_8 : decode cX5_buy 8 = .ok (.iconst (-1), 1) := by decide +kernel
theorem dX5_buy_9 : decode cX5_buy 9 = .ok (.invokevirtual 70, 3) := by decide +kernel
theorem dX5_buy_12 : decode cX5_buy 12 = .ok (.ireturn, 1) := by decide +kernel
theorem dX5_buy_13 : decode cX5_buy 13 = .ok (.aload_n 0, 1) := by decide +kernel
theorem dX5_buy_14 : decode cX5_buy 14 = .ok (.getfield 110, 3) := by decide +kernel
theorem dX5_buy_17 : decode cX5_buy 17 = .ok (.ifCond .lt 26, 3) := by decide +kernel
theorem dX5_buy_20 : decode cX5_buy 20 = .ok (.aload_n 0, 1) := by decide +kernel
theorem dX5_buy_21 : decode cX5_buy 21 = .ok (.getfield 110, 3) := by decide +kernel
theorem dX5_buy_24 : decode cX5_buy 24 = .ok (.aload_n 0, 1) := by decide +kernel
theorem dX5_buy_25 : decode cX5_buy 25 = .ok (.getfield 17, 3) := by decide +kernel
theorem dX5_buy_28 : decode cX5_buy 28 = .ok (.arraylength, 1) := by decide +kernel
theorem dX5_buy_29 : decode cX5_buy 29 = .ok (.if_icmp .ge 14, 3) := by decide +kernel
theorem dX5_buy_32 : decode cX5_buy 32 = .ok (.aload_n 0, 1) := by decide +kernel
theorem dX5_buy_33 : decode cX5_buy 33 = .ok (.getfield 45, 3) := by decide +kernel
theorem dX5_buy_36 : decode cX5_buy 36 = .ok (.iconst 1, 1) := by decide +kernel
theorem dX5_buy_37 : decode cX5_buy 37 = .ok (.invokevirtual 113, 3) := by decide +kernel
theorem dX5_buy_40 : decode cX5_buy 40 = .ok (.ifCond .ne 10, 3) := by decide +kernel
theorem dX5_buy_43 : decode cX5_buy 43 = .ok (.aload_n 0, 1) := by decide +kernel
theorem dX5_buy_44 : decode cX5_buy 44 = .ok (.bipush (-6), 2) := by decide +kernel
theorem dX5_buy_46 : decode cX5_buy 46 = .ok (.invokevirtual 70, 3) := by decide +kernel
theorem dX5_buy_49 : decode cX5_buy 49 = .ok (.ireturn, 1) := by decide +kernel
theorem dX5_buy_50 : decode cX5_buy 50 = .ok (.new 15, 3) := by decide +kernel
theorem dX5_buy_53 : decode cX5_buy 53 = .ok (.dup, 1) := by decide +kernel
theorem dX5_buy_54 : decode cX5_buy 54 = .ok (.aload_n 0, 1) := by decide +kernel
theorem dX5_buy_55 : decode cX5_buy 55 = .ok (.getfield 110, 3) := by decide +kernel
theorem dX5_buy_58 : decode cX5_buy 58 = .ok (.iload_n 1, 1) := by decide +kernel
theorem dX5_buy_59 : decode cX5_buy 59 = .ok (.aload_n 0, 1) := by decide +kernel
theorem dX5_buy_60 : decode cX5_buy 60 = .ok (.getfield 116, 3) := by decide +kernel
theorem dX5_buy_63 : decode cX5_buy 63 = .ok (.invokespecial 119, 3) := by decide +kernel
theorem dX5_buy_66 : decode cX5_buy 66 = .ok (.astore_n 2, 1) := by decide +kernel
theorem dX5_buy_67 : decode cX5_buy 67 = .ok (.aload_n 2, 1) := by decide +kernel
theorem dX5_buy_68 : decode cX5_buy 68 = .ok (.aload_n 0, 1) := by decide +kernel
theorem dX5_buy_69 : decode cX5_buy 69 = .ok (.getfield 36, 3) := by decide +kernel
theorem dX5_buy_72 : decode cX5_buy 72 = .ok (.iload_n 1, 1) := by decide +kernel
theorem dX5_buy_73 : decode cX5_buy 73 = .ok (.invokestatic 96, 3) := by decide +kernel
theorem dX5_buy_76 : decode cX5_buy 76 = .ok (.invokevirtual 122, 3) := by decide +kernel
theorem dX5_buy_79 : decode cX5_buy 79 = .ok (.aload_n 0, 1) := by decide +kernel
theorem dX5_buy_80 : decode cX5_buy 80 = .ok (.getfield 17, 3) := by decide +kernel
theorem dX5_buy_83 : decode cX5_buy 83 = .ok (.aload_n 2, 1) := by decide +kernel
theorem dX5_buy_84 : decode cX5_buy 84 = .ok (.getfield 125, 3) := by decide +kernel
theorem dX5_buy_87 : decode cX5_buy 87 = .ok (.aload_n 2, 1) := by decide +kernel
theorem dX5_buy_88 : decode cX5_buy 88 = .ok (.aastore, 1) := by decide +kernel
theorem dX5_buy_89 : decode cX5_buy 89 = .ok (.aload_n 0, 1) := by decide +kernel
theorem dX5_buy_90 : decode cX5_buy 90 = .ok (.aload_n 2, 1) := by decide +kernel
theorem dX5_buy_91 : decode cX5_buy 91 = .ok (.getfield 125, 3) := by decide +kernel
theorem dX5_buy_94 : decode cX5_buy 94 = .ok (.iconst 1, 1) := by decide +kernel
theorem dX5_buy_95 : decode cX5_buy 95 = .ok (.iadd, 1) := by decide +kernel
theorem dX5_buy_96 : decode cX5_buy 96 = .ok (.putfield 110, 3) := by decide +kernel
theorem dX5_buy_99 : decode cX5_buy 99 = .ok (.aload_n 0, 1) := by decide +kernel
theorem dX5_buy_100 : decode cX5_buy 100 = .ok (.aload_n 2, 1) := by decide +kernel
theorem dX5_buy_101 : decode cX5_buy 101 = .ok (.iconst (-1), 1) := by decide +kernel
theorem dX5_buy_102 : decode cX5_buy 102 = .ok (.invokevirtual 128, 3) := by decide +kernel
theorem dX5_buy_105 : decode cX5_buy 105 = .ok (.aload_n 2, 1) := by decide +kernel
theorem dX5_buy_106 : decode cX5_buy 106 = .ok (.getfield 125, 3) := by decide +kernel
theorem dX5_buy_109 : decode cX5_buy 109 = .ok (.ireturn, 1) := by decide +kernel
theorem dX5_put_0 : decode cX5_put 0 = .ok (.aload_n 0, 1) := by decide +kernel
theorem dX5_put_1 : decode cX5_put 1 = .ok (.iload_n 1, 1) := by decide +kernel
theorem dX5_put_2 : decode cX5_put 2 = .ok (.invokevirtual 132, 3) := by decide +kernel
theorem dX5_put_5 : decode cX5_put 5 = .ok (.astore 4, 2) := by decide +kernel
theorem dX5_put_7 : decode cX5_put 7 = .ok (.aload_n 0, 1) := by decide +kernel
theorem dX5_put_8 : decode cX5_put 8 = .ok (.iload_n 2, 1) := by decide +kernel
theorem dX5_put_9 : decode cX5_put 9 = .ok (.invokevirtual 77, 3) := by decide +kernel
theorem dX5_put_12 : decode cX5_put 12 = .ok (.astore 5, 2) := by decide +kernel
theorem dX5_put_14 : decode cX5_put 14 = .ok (.aload 4, 2) := by decide +kernel
theorem dX5_put_16 : decode cX5_put 16 = .ok (.ifnull 17, 3) := by decide +kernel
theorem dX5_put_19 : decode cX5_put 19 = .ok (.aload 5, 2) := by decide +kernel
theorem dX5_put_21 : decode cX5_put 21 = .ok (.ifnull 12, 3) := by decide +kernel
theorem dX5_put_24 : decode cX5_put 24 = .ok (.aload 5, 2) := by decide +kernel
theorem dX5_put_26 : decode cX5_put 26 = .ok (.iload_n 3, 1) := by decide +kernel
theorem dX5_put_27 : decode cX5_put 27 = .ok (.invokevirtual 136, 3) := by decide +kernel
theorem dX5_put_30 : decode cX5_put 30 = .ok (.ifCond .ne 9, 3) := by decide +kernel
theorem dX5_put_33 : decode cX5_put 33 = .ok (.aload_n 0, 1) := by decide +kernel
theorem dX5_put_34 : decode cX5_put 34 = .ok (.iconst (-1), 1) := by decide +kernel
theorem dX5_put_35 : decode cX5_put 35 = .ok (.invokevirtual 70, 3) := by decide +kernel
theorem dX5_put_38 : decode cX5_put 38 = .ok (.ireturn, 1) := by decide +kernel
theorem dX5_put_39 : decode cX5_put 39 = .ok (.aload 4, 2) := by decide +kernel
theorem dX5_put_41 : decode cX5_put 41 = .ok (.getfield 139, 3) := by decide +kernel
theorem dX5_put_44 : decode cX5_put 44 = .ok (.iconst (-1), 1) := by decide +kernel
theorem dX5_put_45 : decode cX5_put 45 = .ok (.if_icmp .ne 12, 3) := by decide +kernel
theorem dX5_put_48 : decode cX5_put 48 = .ok (.aload 5, 2) := by decide +kernel
theorem dX5_put_50 : decode cX5_put 50 = .ok (.iload_n 3, 1) := by decide +kernel
theorem dX5_put_51 : decode cX5_put 51 = .ok (.invokevirtual 142, 3) := by decide +kernel
theorem dX5_put_54 : decode cX5_put 54 = .ok (.ifnull 10, 3) := by decide +kernel
theorem dX5_put_57 : decode cX5_put 57 = .ok (.aload_n 0, 1) := by decide +kernel
theorem dX5_put_58 : decode cX5_put 58 = .ok (.bipush (-2), 2) := by decide +kernel
theorem dX5_put_60 : decode cX5_put 60 = .ok (.invokevirtual 70, 3) := by decide +kernel
theorem dX5_put_63 : decode cX5_put 63 = .ok (.ireturn, 1) := by decide +kernel
theorem dX5_put_64 : decode cX5_put 64 = .ok (.aload_n 0, 1) := by decide +kernel
theorem dX5_put_65 : decode cX5_put 65 = .ok (.getfield 45, 3) := by decide +kernel
theorem dX5_put_68 : decode cX5_put 68 = .ok (.iconst 1, 1) := by decide +kernel
theorem dX5_put_69 : decode cX5_put 69 = .ok (.invokevirtual 113, 3) := by decide +kernel
theorem dX5_put_72 : decode cX5_put 72 = .ok (.ifCond .ne 10, 3) := by decide +kernel
theorem dX5_put_75 : decode cX5_put 75 = .ok (.aload_n 0, 1) := by decide +kernel
theorem dX5_put_76 : decode cX5_put 76 = .ok (.bipush (-6), 2) := by decide +kernel
theorem dX5_put_78 : decode cX5_put 78 = .ok (.invokevirtual 70, 3) := by decide +kernel
theorem dX5_put_81 : decode cX5_put 81 = .ok (.ireturn, 1) := by decide +kernel
theorem dX5_put_82 : decode cX5_put 82 = .ok (.aload 5, 2) := by decide +kernel
theorem dX5_put_84 : decode cX5_put 84 = .ok (.iload_n 3, 1) := by decide +kernel
theorem dX5_put_85 : decode cX5_put 85 = .ok (.aload 4, 2) := by decide +kernel
theorem dX5_put_87 : decode cX5_put 87 = .ok (.invokevirtual 145, 3) := by decide +kernel
theorem dX5_put_90 : decode cX5_put 90 = .ok (.aload_n 0, 1) := by decide +kernel
theorem dX5_put_91 : decode cX5_put 91 = .ok (.aload 4, 2) := by decide +kernel
theorem dX5_put_93 : decode cX5_put 93 = .ok (.aload 5, 2) := by decide +kernel
theorem dX5_put_95 : decode cX5_put 95 = .ok (.iload_n 3, 1) := by decide +kernel
theorem dX5_put_96 : decode cX5_put 96 = .ok (.invokevirtual 149, 3) := by decide +kernel
theorem dX5_put_99 : decode cX5_put 99 = .ok (.invokevirtual 128, 3) := by decide +kernel
theorem dX5_put_102 : decode cX5_put 102 = .ok (.iconst 1, 1) := by decide +kernel
theorem dX5_put_103 : decode cX5_put 103 = .ok (.ireturn, 1) := by decide +kernel
theorem dX5_take_0 : decode cX5_take 0 = .ok (.aload_n 0, 1) := by decide +kernel
theorem dX5_take_1 : decode cX5_take 1 = .ok (.iload_n 1, 1) := by decide +kernel
theorem dX5_take_2 : decode cX5_take 2 = .ok (.invokevirtual 77, 3) := by decide +kernel
theorem dX5_take_5 : decode cX5_take 5 = .ok (.astore_n 3, 1) := by decide +kernel
theorem dX5_take_6 : decode cX5_take 6 = .ok (.aload_n 3, 1) := by decide +kernel
theorem dX5_take_7 : decode cX5_take 7 = .ok (.ifnull 11, 3) := by decide +kernel
theorem dX5_take_10 : decode cX5_take 10 = .ok (.aload_n 3, 1) := by decide +kernel
theorem dX5_take_11 : decode cX5_take 11 = .ok (.iload_n 2, 1) := by decide +kernel
theorem dX5_take_12 : decode cX5_take 12 = .ok (.invokevirtual 136, 3) := by decide +kernel
theorem dX5_take_15 : decode cX5_take 15 = .ok (.ifCond .ne 9, 3) := by decide +kernel
theorem dX5_take_18 : decode cX5_take 18 = .ok (.aload_n 0, 1) := by decide +kernel
theorem dX5_take_19 : decode cX5_take 19 = .ok (.iconst (-1), 1) := by decide +kernel
theorem dX5_take_20 : decode cX5_take 20 = .ok (.invokevirtual 70, 3) := by decide +kernel
theorem dX5_take_23 : decode cX5_take 23 = .ok (.ireturn, 1) := by decide +kernel
theorem dX5_take_24 : decode cX5_take 24 = .ok (.aload_n 3, 1) := by decide +kernel
theorem dX5_take_25 : decode cX5_take 25 = .ok (.iload_n 2, 1) := by decide +kernel
theorem dX5_take_26 : decode cX5_take 26 = .ok (.invokevirtual 142, 3) := by decide +kernel
theorem dX5_take_29 : decode cX5_take 29 = .ok (.astore 4, 2) := by decide +kernel
theorem dX5_take_31 : decode cX5_take 31 = .ok (.aload 4, 2) := by decide +kernel
theorem dX5_take_33 : decode cX5_take 33 = .ok (.ifnonnull 10, 3) := by decide +kernel
theorem dX5_take_36 : decode cX5_take 36 = .ok (.aload_n 0, 1) := by decide +kernel
theorem dX5_take_37 : decode cX5_take 37 = .ok (.bipush (-2), 2) := by decide +kernel
theorem dX5_take_39 : decode cX5_take 39 = .ok (.invokevirtual 70, 3) := by decide +kernel
theorem dX5_take_42 : decode cX5_take 42 = .ok (.ireturn, 1) := by decide +kernel
theorem dX5_take_43 : decode cX5_take 43 = .ok (.aload_n 0, 1) := by decide +kernel
theorem dX5_take_44 : decode cX5_take 44 = .ok (.getfield 45, 3) := by decide +kernel
theorem dX5_take_47 : decode cX5_take 47 = .ok (.iconst 1, 1) := by decide +kernel
theorem dX5_take_48 : decode cX5_take 48 = .ok (.invokevirtual 113, 3) := by decide +kernel
theorem dX5_take_51 : decode cX5_take 51 = .ok (.ifCond .ne 10, 3) := by decide +kernel
theorem dX5_take_54 : decode cX5_take 54 = .ok (.aload_n 0, 1) := by decide +kernel
theorem dX5_take_55 : decode cX5_take 55 = .ok (.bipush (-6), 2) := by decide +kernel
theorem dX5_take_57 : decode cX5_take 57 = .ok (.invokevirtual 70, 3) := by decide +kernel
theorem dX5_take_60 : decode cX5_take 60 = .ok (.ireturn, 1) := by decide +kernel
theorem dX5_take_61 : decode cX5_take 61 = .ok (.aload_n 3, 1) := by decide +kernel
theorem dX5_take_62 : decode cX5_take 62 = .ok (.iload_n 2, 1) := by decide +kernel
theorem dX5_take_63 : decode cX5_take 63 = .ok (.aconst_null, 1) := by decide +kernel
theorem dX5_take_64 : decode cX5_take 64 = .ok (.invokevirtual 145, 3) := by decide +kernel
theorem dX5_take_67 : decode cX5_take 67 = .ok (.aload_n 0, 1) := by decide +kernel
theorem dX5_take_68 : decode cX5_take 68 = .ok (.aload 4, 2) := by decide +kernel
theorem dX5_take_70 : decode cX5_take 70 = .ok (.iconst (-1), 1) := by decide +kernel
theorem dX5_take_71 : decode cX5_take 71 = .ok (.invokevirtual 128, 3) := by decide +kernel
theorem dX5_take_74 : decode cX5_take 74 = .ok (.aload 4, 2) := by decide +kernel
theorem dX5_take_76 : decode cX5_take 76 = .ok (.getfield 125, 3) := by decide +kernel
theorem dX5_take_79 : decode cX5_take 79 = .ok (.ireturn, 1) := by decide +kernel
theorem dX5_swap_0 : decode cX5_swap 0 = .ok (.aload_n 0, 1) := by decide +kernel
theorem dX5_swap_1 : decode cX5_swap 1 = .ok (.iload_n 1, 1) := by decide +kernel
theorem dX5_swap_2 : decode cX5_swap 2 = .ok (.invokevirtual 77, 3) := by decide +kernel
theorem dX5_swap_5 : decode cX5_swap 5 = .ok (.astore 5, 2) := by decide +kernel
theorem dX5_swap_7 : decode cX5_swap 7 = .ok (.aload_n 0, 1) := by decide +kernel
theorem dX5_swap_8 : decode cX5_swap 8 = .ok (.iload_n 3, 1) := by decide +kernel
theorem dX5_swap_9 : decode cX5_swap 9 = .ok (.invokevirtual 77, 3) := by decide +kernel
theorem dX5_swap_12 : decode cX5_swap 12 = .ok (.astore 6, 2) := by decide +kernel
theorem dX5_swap_14 : decode cX5_swap 14 = .ok (.aload 5, 2) := by decide +kernel
theorem dX5_swap_16 : decode cX5_swap 16 = .ok (.ifnull 27, 3) := by decide +kernel
theorem dX5_swap_19 : decode cX5_swap 19 = .ok (.aload 6, 2) := by decide +kernel
theorem dX5_swap_21 : decode cX5_swap 21 = .ok (.ifnull 22, 3) := by decide +kernel
theorem dX5_swap_24 : decode cX5_swap 24 = .ok (.aload 5, 2) := by decide +kernel
theorem dX5_swap_26 : decode cX5_swap 26 = .ok (.iload_n 2, 1) := by decide +kernel
theorem dX5_swap_27 : decode cX5_swap 27 = .ok (.invokevirtual 136, 3) := by decide +kernel
theorem dX5_swap_30 : decode cX5_swap 30 = .ok (.ifCond .eq 13, 3) := by decide +kernel
theorem dX5_swap_33 : decode cX5_swap 33 = .ok (.aload 6, 2) := by decide +kernel
theorem dX5_swap_35 : decode cX5_swap 35 = .ok (.iload 4, 2) := by decide +kernel
theorem dX5_swap_37 : decode cX5_swap 37 = .ok (.invokevirtual 136, 3) := by decide +kernel
theorem dX5_swap_40 : decode cX5_swap 40 = .ok (.ifCond .ne 9, 3) := by decide +kernel
theorem dX5_swap_43 : decode cX5_swap 43 = .ok (.aload_n 0, 1) := by decide +kernel
theorem dX5_swap_44 : decode cX5_swap 44 = .ok (.iconst (-1), 1) := by decide +kernel
theorem dX5_swap_45 : decode cX5_swap 45 = .ok (.invokevirtual 70, 3) := by decide +kernel
theorem dX5_swap_48 : decode cX5_swap 48 = .ok (.ireturn, 1) := by decide +kernel
theorem dX5_swap_49 : decode cX5_swap 49 = .ok (.iload_n 1, 1) := by decide +kernel
theorem dX5_swap_50 : decode cX5_swap 50 = .ok (.iload_n 3, 1) := by decide +kernel
theorem dX5_swap_51 : decode cX5_swap 51 = .ok (.if_icmp .ne 15, 3) := by decide +kernel
theorem dX5_swap_54 : decode cX5_swap 54 = .ok (.iload_n 2, 1) := by decide +kernel
theorem dX5_swap_55 : decode cX5_swap 55 = .ok (.iload 4, 2) := by decide +kernel
theorem dX5_swap_57 : decode cX5_swap 57 = .ok (.if_icmp .ne 9, 3) := by decide +kernel
theorem dX5_swap_60 : decode cX5_swap 60 = .ok (.aload_n 0, 1) := by decide +kernel
theorem dX5_swap_61 : decode cX5_swap 61 = .ok (.iconst (-1), 1) := by decide +kernel
theorem dX5_swap_62 : decode cX5_swap 62 = .ok (.invokevirtual 70, 3) := by decide +kernel
theorem dX5_swap_65 : decode cX5_swap 65 = .ok (.ireturn, 1) := by decide +kernel
theorem dX5_swap_66 : decode cX5_swap 66 = .ok (.aload 5, 2) := by decide +kernel
theorem dX5_swap_68 : decode cX5_swap 68 = .ok (.iload_n 2, 1) := by decide +kernel
theorem dX5_swap_69 : decode cX5_swap 69 = .ok (.invokevirtual 142, 3) := by decide +kernel
theorem dX5_swap_72 : decode cX5_swap 72 = .ok (.astore 7, 2) := by decide +kernel
theorem dX5_swap_74 : decode cX5_swap 74 = .ok (.aload 6, 2) := by decide +kernel
theorem dX5_swap_76 : decode cX5_swap 76 = .ok (.iload 4, 2) := by decide +kernel
theorem dX5_swap_78 : decode cX5_swap 78 = .ok (.invokevirtual 142, 3) := by decide +kernel
theorem dX5_swap_81 : decode cX5_swap 81 = .ok (.astore 8, 2) := by decide +kernel
theorem dX5_swap_83 : decode cX5_swap 83 = .ok (.aload 7, 2) := by decide +kernel
theorem dX5_swap_85 : decode cX5_swap 85 = .ok (.ifnonnull 15, 3) := by decide +kernel
theorem dX5_swap_88 : decode cX5_swap 88 = .ok (.aload 8, 2) := by decide +kernel
theorem dX5_swap_90 : decode cX5_swap 90 = .ok (.ifnonnull 10, 3) := by decide +kernel
theorem dX5_swap_93 : decode cX5_swap 93 = .ok (.aload_n 0, 1) := by decide +kernel
theorem dX5_swap_94 : decode cX5_swap 94 = .ok (.bipush (-2), 2) := by decide +kernel
theorem dX5_swap_96 : decode cX5_swap 96 = .ok (.invokevirtual 70, 3) := by decide +kernel
theorem dX5_swap_99 : decode cX5_swap 99 = .ok (.ireturn, 1) := by decide +kernel
theorem dX5_swap_100 : decode cX5_swap 100 = .ok (.aload_n 0, 1) := by decide +kernel
theorem dX5_swap_101 : decode cX5_swap 101 = .ok (.getfield 45, 3) := by decide +kernel
theorem dX5_swap_104 : decode cX5_swap 104 = .ok (.aload 7, 2) := by decide +kernel
theorem dX5_swap_106 : decode cX5_swap 106 = .ok (.ifnull 8, 3) := by decide +kernel
theorem dX5_swap_109 : decode cX5_swap 109 = .ok (.aload 8, 2) := by decide +kernel
theorem dX5_swap_111 : decode cX5_swap 111 = .ok (.ifnonnull 7, 3) := by decide +kernel
theorem dX5_swap_114 : decode cX5_swap 114 = .ok (.iconst 1, 1) := by decide +kernel
theorem dX5_swap_115 : decode cX5_swap 115 = .ok (.goto 4, 3) := by decide +kernel
theorem dX5_swap_118 : decode cX5_swap 118 = .ok (.iconst 2, 1) := by decide +kernel
theorem dX5_swap_119 : decode cX5_swap 119 = .ok (.invokevirtual 113, 3) := by decide +kernel
theorem dX5_swap_122 : decode cX5_swap 122 = .ok (.ifCond .ne 10, 3) := by decide +kernel
theorem dX5_swap_125 : decode cX5_swap 125 = .ok (.aload_n 0, 1) := by decide +kernel
theorem dX5_swap_126 : decode cX5_swap 126 = .ok (.bipush (-6), 2) := by decide +kernel
theorem dX5_swap_128 : decode cX5_swap 128 = .ok (.invokevirtual 70, 3) := by decide +kernel
theorem dX5_swap_131 : decode cX5_swap 131 = .ok (.ireturn, 1) := by decide +kernel
theorem dX5_swap_132 : decode cX5_swap 132 = .ok (.aload 5, 2) := by decide +kernel
theorem dX5_swap_134 : decode cX5_swap 134 = .ok (.iload_n 2, 1) := by decide +kernel
theorem dX5_swap_135 : decode cX5_swap 135 = .ok (.aload 8, 2) := by decide +kernel
theorem dX5_swap_137 : decode cX5_swap 137 = .ok (.invokevirtual 145, 3) := by decide +kernel
theorem dX5_swap_140 : decode cX5_swap 140 = .ok (.aload 6, 2) := by decide +kernel
theorem dX5_swap_142 : decode cX5_swap 142 = .ok (.iload 4, 2) := by decide +kernel
theorem dX5_swap_144 : decode cX5_swap 144 = .ok (.aload 7, 2) := by decide +kernel
theorem dX5_swap_146 : decode cX5_swap 146 = .ok (.invokevirtual 145, 3) := by decide +kernel
theorem dX5_swap_149 : decode cX5_swap 149 = .ok (.aload_n 0, 1) := by decide +kernel
theorem dX5_swap_150 : decode cX5_swap 150 = .ok (.aload 8, 2) := by decide +kernel
theorem dX5_swap_152 : decode cX5_swap 152 = .ok (.aload 5, 2) := by decide +kernel
theorem dX5_swap_154 : decode cX5_swap 154 = .ok (.iload_n 2, 1) := by decide +kernel
theorem dX5_swap_155 : decode cX5_swap 155 = .ok (.invokevirtual 149, 3) := by decide +kernel
theorem dX5_swap_158 : decode cX5_swap 158 = .ok (.invokevirtual 128, 3) := by decide +kernel
theorem dX5_swap_161 : decode cX5_swap 161 = .ok (.aload_n 0, 1) := by decide +kernel
theorem dX5_swap_162 : decode cX5_swap 162 = .ok (.aload 7, 2) := by decide +kernel
theorem dX5_swap_164 : decode cX5_swap 164 = .ok (.aload 6, 2) := by decide +kernel
theorem dX5_swap_166 : decode cX5_swap 166 = .ok (.iload 4, 2) := by decide +kernel
theorem dX5_swap_168 : decode cX5_swap 168 = .ok (.invokevirtual 149, 3) := by decide +kernel
theorem dX5_swap_171 : decode cX5_swap 171 = .ok (.invokevirtual 128, 3) := by decide +kernel
theorem dX5_swap_174 : decode cX5_swap 174 = .ok (.iconst 1, 1) := by decide +kernel
theorem dX5_swap_175 : decode cX5_swap 175 = .ok (.ireturn, 1) := by decide +kernel
theorem dX5_read_0 : decode cX5_read 0 = .ok (.aload_n 0, 1) := by decide +kernel
theorem dX5_read_1 : decode cX5_read 1 = .ok (.iload_n 1, 1) := by decide +kernel
theorem dX5_read_2 : decode cX5_read 2 = .ok (.invokevirtual 132, 3) := by decide +kernel
theorem dX5_read_5 : decode cX5_read 5 = .ok (.astore_n 3, 1) := by decide +kernel
theorem dX5_read_6 : decode cX5_read 6 = .ok (.aload_n 3, 1) := by decide +kernel
theorem dX5_read_7 : decode cX5_read 7 = .ok (.ifnonnull 9, 3) := by decide +kernel
theorem dX5_read_10 : decode cX5_read 10 = .ok (.aload_n 0, 1) := by decide +kernel
theorem dX5_read_11 : decode cX5_read 11 = .ok (.iconst (-1), 1) := by decide +kernel
theorem dX5_read_12 : decode cX5_read 12 = .ok (.invokevirtual 70, 3) := by decide +kernel
theorem dX5_read_15 : decode cX5_read 15 = .ok (.ireturn, 1) := by decide +kernel
theorem dX5_read_16 : decode cX5_read 16 = .ok (.aload_n 3, 1) := by decide +kernel
theorem dX5_read_17 : decode cX5_read 17 = .ok (.getfield 139, 3) := by decide +kernel
theorem dX5_read_20 : decode cX5_read 20 = .ok (.bipush (-2), 2) := by decide +kernel
theorem dX5_read_22 : decode cX5_read 22 = .ok (.if_icmp .eq 12, 3) := by decide +kernel
theorem dX5_read_25 : decode cX5_read 25 = .ok (.aload_n 3, 1) := by decide +kernel
theorem dX5_read_26 : decode cX5_read 26 = .ok (.getfield 139, 3) := by decide +kernel
theorem dX5_read_29 : decode cX5_read 29 = .ok (.bipush (-3), 2) := by decide +kernel
theorem dX5_read_31 : decode cX5_read 31 = .ok (.if_icmp .ne 10, 3) := by decide +kernel
theorem dX5_read_34 : decode cX5_read 34 = .ok (.aload_n 0, 1) := by decide +kernel
theorem dX5_read_35 : decode cX5_read 35 = .ok (.bipush (-2), 2) := by decide +kernel
theorem dX5_read_37 : decode cX5_read 37 = .ok (.invokevirtual 70, 3) := by decide +kernel
theorem dX5_read_40 : decode cX5_read 40 = .ok (.ireturn, 1) := by decide +kernel
theorem dX5_read_41 : decode cX5_read 41 = .ok (.iload_n 2, 1) := by decide +kernel
theorem dX5_read_42 : decode cX5_read 42 = .ok (.iconst 0, 1) := by decide +kernel
theorem dX5_read_43 : decode cX5_read 43 = .ok (.sipush 300, 3) := by decide +kernel
theorem dX5_read_46 : decode cX5_read 46 = .ok (.invokestatic 92, 3) := by decide +kernel
theorem dX5_read_49 : decode cX5_read 49 = .ok (.istore 4, 2) := by decide +kernel
theorem dX5_read_51 : decode cX5_read 51 = .ok (.iload 4, 2) := by decide +kernel
theorem dX5_read_53 : decode cX5_read 53 = .ok (.ifCond .eq 10, 3) := by decide +kernel
theorem dX5_read_56 : decode cX5_read 56 = .ok (.aload_n 0, 1) := by decide +kernel
theorem dX5_read_57 : decode cX5_read 57 = .ok (.iload 4, 2) := by decide +kernel
theorem dX5_read_59 : decode cX5_read 59 = .ok (.invokevirtual 70, 3) := by decide +kernel
theorem dX5_read_62 : decode cX5_read 62 = .ok (.ireturn, 1) := by decide +kernel
theorem dX5_read_63 : decode cX5_read 63 = .ok (.aload_n 3, 1) := by decide +kernel
theorem dX5_read_64 : decode cX5_read 64 = .ok (.iload_n 2, 1) := by decide +kernel
theorem dX5_read_65 : decode cX5_read 65 = .ok (.invokevirtual 152, 3) := by decide +kernel
theorem dX5_read_68 : decode cX5_read 68 = .ok (.aload_n 3, 1) := by decide +kernel
theorem dX5_read_69 : decode cX5_read 69 = .ok (.aload_n 0, 1) := by decide +kernel
theorem dX5_read_70 : decode cX5_read 70 = .ok (.getfield 36, 3) := by decide +kernel
theorem dX5_read_73 : decode cX5_read 73 = .ok (.aload_n 3, 1) := by decide +kernel
theorem dX5_read_74 : decode cX5_read 74 = .ok (.getfield 155, 3) := by decide +kernel
theorem dX5_read_77 : decode cX5_read 77 = .ok (.invokestatic 96, 3) := by decide +kernel
theorem dX5_read_80 : decode cX5_read 80 = .ok (.invokevirtual 158, 3) := by decide +kernel
theorem dX5_read_83 : decode cX5_read 83 = .ok (.aload_n 3, 1) := by decide +kernel
theorem dX5_read_84 : decode cX5_read 84 = .ok (.getfield 161, 3) := by decide +kernel
theorem dX5_read_87 : decode cX5_read 87 = .ok (.ireturn, 1) := by decide +kernel
theorem dX5_go_0 : decode cX5_go 0 = .ok (.aload_n 0, 1) := by decide +kernel
theorem dX5_go_1 : decode cX5_go 1 = .ok (.iload_n 1, 1) := by decide +kernel
theorem dX5_go_2 : decode cX5_go 2 = .ok (.invokevirtual 77, 3) := by decide +kernel
theorem dX5_go_5 : decode cX5_go 5 = .ok (.astore 4, 2) := by decide +kernel
theorem dX5_go_7 : decode cX5_go 7 = .ok (.aload 4, 2) := by decide +kernel
theorem dX5_go_9 : decode cX5_go 9 = .ok (.ifnonnull 9, 3) := by decide +kernel
theorem dX5_go_12 : decode cX5_go 12 = .ok (.aload_n 0, 1) := by decide +kernel
theorem dX5_go_13 : decode cX5_go 13 = .ok (.iconst (-1), 1) := by decide +kernel
theorem dX5_go_14 : decode cX5_go 14 = .ok (.invokevirtual 70, 3) := by decide +kernel
theorem dX5_go_17 : decode cX5_go 17 = .ok (.ireturn, 1) := by decide +kernel
theorem dX5_go_18 : decode cX5_go 18 = .ok (.aload 4, 2) := by decide +kernel
theorem dX5_go_20 : decode cX5_go 20 = .ok (.aload_n 0, 1) := by decide +kernel
theorem dX5_go_21 : decode cX5_go 21 = .ok (.getfield 30, 3) := by decide +kernel
theorem dX5_go_24 : decode cX5_go 24 = .ok (.aload_n 0, 1) := by decide +kernel
theorem dX5_go_25 : decode cX5_go 25 = .ok (.getfield 63, 3) := by decide +kernel
theorem dX5_go_28 : decode cX5_go 28 = .ok (.invokevirtual 164, 3) := by decide +kernel
theorem dX5_go_31 : decode cX5_go 31 = .ok (.bipush (-9), 2) := by decide +kernel
theorem dX5_go_33 : decode cX5_go 33 = .ok (.if_icmp .eq 10, 3) := by decide +kernel
theorem dX5_go_36 : decode cX5_go 36 = .ok (.aload_n 0, 1) := by decide +kernel
theorem dX5_go_37 : decode cX5_go 37 = .ok (.bipush (-2), 2) := by decide +kernel
theorem dX5_go_39 : decode cX5_go 39 = .ok (.invokevirtual 70, 3) := by decide +kernel
theorem dX5_go_42 : decode cX5_go 42 = .ok (.ireturn, 1) := by decide +kernel
theorem dX5_go_43 : decode cX5_go 43 = .ok (.iload_n 2, 1) := by decide +kernel
theorem dX5_go_44 : decode cX5_go 44 = .ok (.iconst 1, 1) := by decide +kernel
theorem dX5_go_45 : decode cX5_go 45 = .ok (.if_icmp .ge 10, 3) := by decide +kernel
theorem dX5_go_48 : decode cX5_go 48 = .ok (.aload_n 0, 1) := by decide +kernel
theorem dX5_go_49 : decode cX5_go 49 = .ok (.bipush (-4), 2) := by decide +kernel
theorem dX5_go_51 : decode cX5_go 51 = .ok (.invokevirtual 70, 3) := by decide +kernel
theorem dX5_go_54 : decode cX5_go 54 = .ok (.ireturn, 1) := by decide +kernel
theorem dX5_go_55 : decode cX5_go 55 = .ok (.iload_n 2, 1) := by decide +kernel
theorem dX5_go_56 : decode cX5_go 56 = .ok (.sipush 10000, 3) := by decide +kernel
theorem dX5_go_59 : decode cX5_go 59 = .ok (.if_icmp .gt 16, 3) := by decide +kernel
theorem dX5_go_62 : decode cX5_go 62 = .ok (.aload 4, 2) := by decide +kernel
theorem dX5_go_64 : decode cX5_go 64 = .ok (.iload_n 3, 1) := by decide +kernel
theorem dX5_go_65 : decode cX5_go 65 = .ok (.invokevirtual 167, 3) := by decide +kernel
theorem dX5_go_68 : decode cX5_go 68 = .ok (.ldc 171, 2) := by decide +kernel
theorem dX5_go_70 : decode cX5_go 70 = .ok (.iload_n 2, 1) := by decide +kernel
theorem dX5_go_71 : decode cX5_go 71 = .ok (.isub, 1) := by decide +kernel
theorem dX5_go_72 : decode cX5_go 72 = .ok (.if_icmp .le 10, 3) := by decide +kernel
theorem dX5_go_75 : decode cX5_go 75 = .ok (.aload_n 0, 1) := by decide +kernel
theorem dX5_go_76 : decode cX5_go 76 = .ok (.bipush (-6), 2) := by decide +kernel
theorem dX5_go_78 : decode cX5_go 78 = .ok (.invokevirtual 70, 3) := by decide +kernel
theorem dX5_go_81 : decode cX5_go 81 = .ok (.ireturn, 1) := by decide +kernel
theorem dX5_go_82 : decode cX5_go 82 = .ok (.aload 4, 2) := by decide +kernel
theorem dX5_go_84 : decode cX5_go 84 = .ok (.iload_n 2, 1) := by decide +kernel
theorem dX5_go_85 : decode cX5_go 85 = .ok (.iload_n 3, 1) := by decide +kernel
theorem dX5_go_86 : decode cX5_go 86 = .ok (.invokevirtual 172, 3) := by decide +kernel
theorem dX5_go_89 : decode cX5_go 89 = .ok (.aload 4, 2) := by decide +kernel
theorem dX5_go_91 : decode cX5_go 91 = .ok (.aload_n 0, 1) := by decide +kernel
theorem dX5_go_92 : decode cX5_go 92 = .ok (.getfield 30, 3) := by decide +kernel
theorem dX5_go_95 : decode cX5_go 95 = .ok (.invokevirtual 176, 3) := by decide +kernel
theorem dX5_go_98 : decode cX5_go 98 = .ok (.ireturn, 1) := by decide +kernel
theorem dX5_why_0 : decode cX5_why 0 = .ok (.aload_n 0, 1) := by decide +kernel
theorem dX5_why_1 : decode cX5_why 1 = .ok (.iload_n 1, 1) := by decide +kernel
theorem dX5_why_2 : decode cX5_why 2 = .ok (.invokevirtual 77, 3) := by decide +kernel
theorem dX5_why_5 : decode cX5_why 5 = .ok (.astore_n 2, 1) := by decide +kernel
theorem dX5_why_6 : decode cX5_why 6 = .ok (.aload_n 2, 1) := by decide +kernel
theorem dX5_why_7 : decode cX5_why 7 = .ok (.ifnonnull 11, 3) := by decide +kernel
theorem dX5_why_10 : decode cX5_why 10 = .ok (.aload_n 0, 1) := by decide +kernel
theorem dX5_why_11 : decode cX5_why 11 = .ok (.iconst (-1), 1) := by decide +kernel
theorem dX5_why_12 : decode cX5_why 12 = .ok (.invokevirtual 70, 3) := by decide +kernel
theorem dX5_why_15 : decode cX5_why 15 = .ok (.goto 15, 3) := by decide +kernel
theorem dX5_why_18 : decode cX5_why 18 = .ok (.aload_n 2, 1) := by decide +kernel
theorem dX5_why_19 : decode cX5_why 19 = .ok (.aload_n 0, 1) := by decide +kernel
theorem dX5_why_20 : decode cX5_why 20 = .ok (.getfield 30, 3) := by decide +kernel
theorem dX5_why_23 : decode cX5_why 23 = .ok (.aload_n 0, 1) := by decide +kernel
theorem dX5_why_24 : decode cX5_why 24 = .ok (.getfield 63, 3) := by decide +kernel
theorem dX5_why_27 : decode cX5_why 27 = .ok (.invokevirtual 164, 3) := by decide +kernel
theorem dX5_why_30 : decode cX5_why 30 = .ok (.ireturn, 1) := by decide +kernel
theorem dX5_far_0 : decode cX5_far 0 = .ok (.aload_n 0, 1) := by decide +kernel
theorem dX5_far_1 : decode cX5_far 1 = .ok (.iload_n 1, 1) := by decide +kernel
theorem dX5_far_2 : decode cX5_far 2 = .ok (.invokevirtual 77, 3) := by decide +kernel
theorem dX5_far_5 : decode cX5_far 5 = .ok (.astore_n 2, 1) := by decide +kernel
theorem dX5_far_6 : decode cX5_far 6 = .ok (.aload_n 2, 1) := by decide +kernel
theorem dX5_far_7 : decode cX5_far 7 = .ok (.ifnonnull 11, 3) := by decide +kernel
theorem dX5_far_10 : decode cX5_far 10 = .ok (.aload_n 0, 1) := by decide +kernel
theorem dX5_far_11 : decode cX5_far 11 = .ok (.iconst (-1), 1) := by decide +kernel
theorem dX5_far_12 : decode cX5_far 12 = .ok (.invokevirtual 70, 3) := by decide +kernel
theorem dX5_far_15 : decode cX5_far 15 = .ok (.goto 11, 3) := by decide +kernel
theorem dX5_far_18 : decode cX5_far 18 = .ok (.aload_n 2, 1) := by decide +kernel
theorem dX5_far_19 : decode cX5_far 19 = .ok (.aload_n 0, 1) := by decide +kernel
theorem dX5_far_20 : decode cX5_far 20 = .ok (.getfield 30, 3) := by decide +kernel
theorem dX5_far_23 : decode cX5_far 23 = .ok (.invokevirtual 176, 3) := by decide +kernel
theorem dX5_far_26 : decode cX5_far 26 = .ok (.ireturn, 1) := by decide +kernel
theorem dX5_best_0 : decode cX5_best 0 = .ok (.aload_n 0, 1) := by decide +kernel
theorem dX5_best_1 : decode cX5_best 1 = .ok (.iload_n 1, 1) := by decide +kernel
theorem dX5_best_2 : decode cX5_best 2 = .ok (.invokevirtual 77, 3) := by decide +kernel
theorem dX5_best_5 : decode cX5_best 5 = .ok (.astore_n 2, 1) := by decide +kernel
theorem dX5_best_6 : decode cX5_best 6 = .ok (.aload_n 2, 1) := by decide +kernel
theorem dX5_best_7 : decode cX5_best 7 = .ok (.ifnonnull 9, 3) := by decide +kernel
theorem dX5_best_10 : decode cX5_best 10 = .ok (.aload_n 0, 1) := by decide +kernel
theorem dX5_best_11 : decode cX5_best 11 = .ok (.iconst (-1), 1) := by decide +kernel
theorem dX5_best_12 : decode cX5_best 12 = .ok (.invokevirtual 70, 3) := by decide +kernel
theorem dX5_best_15 : decode cX5_best 15 = .ok (.ireturn, 1) := by decide +kernel
theorem dX5_best_16 : decode cX5_best 16 = .ok (.aload_n 0, 1) := by decide +kernel
theorem dX5_best_17 : decode cX5_best 17 = .ok (.getfield 52, 3) := by decide +kernel
theorem dX5_best_20 : decode cX5_best 20 = .ok (.aload_n 2, 1) := by decide +kernel
theorem dX5_best_21 : decode cX5_best 21 = .ok (.aload_n 0, 1) := by decide +kernel
theorem dX5_best_22 : decode cX5_best 22 = .ok (.getfield 30, 3) := by decide +kernel
theorem dX5_best_25 : decode cX5_best 25 = .ok (.invokevirtual 180, 3) := by decide +kernel
theorem dX5_best_28 : decode cX5_best 28 = .ok (.ifCond .ne 10, 3) := by decide +kernel
theorem dX5_best_31 : decode cX5_best 31 = .ok (.aload_n 0, 1) := by decide +kernel
theorem dX5_best_32 : decode cX5_best 32 = .ok (.bipush (-2), 2) := by decide +kernel
theorem dX5_best_34 : decode cX5_best 34 = .ok (.invokevirtual 70, 3) := by decide +kernel
theorem dX5_best_37 : decode cX5_best 37 = .ok (.ireturn, 1) := by decide +kernel
theorem dX5_best_38 : decode cX5_best 38 = .ok (.aload_n 0, 1) := by decide +kernel
theorem dX5_best_39 : decode cX5_best 39 = .ok (.getfield 52, 3) := by decide +kernel
theorem dX5_best_42 : decode cX5_best 42 = .ok (.getfield 184, 3) := by decide +kernel
theorem dX5_best_45 : decode cX5_best 45 = .ok (.ireturn, 1) := by decide +kernel
theorem dX5_turn_0 : decode cX5_turn 0 = .ok (.aload_n 0, 1) := by decide +kernel
theorem dX5_turn_1 : decode cX5_turn 1 = .ok (.iload_n 1, 1) := by decide +kernel
theorem dX5_turn_2 : decode cX5_turn 2 = .ok (.invokevirtual 77, 3) := by decide +kernel
theorem dX5_turn_5 : decode cX5_turn 5 = .ok (.astore_n 2, 1) := by decide +kernel
theorem dX5_turn_6 : decode cX5_turn 6 = .ok (.aload_n 2, 1) := by decide +kernel
theorem dX5_turn_7 : decode cX5_turn 7 = .ok (.ifnonnull 9, 3) := by decide +kernel
theorem dX5_turn_10 : decode cX5_turn 10 = .ok (.aload_n 0, 1) := by decide +kernel
theorem dX5_turn_11 : decode cX5_turn 11 = .ok (.iconst (-1), 1) := by decide +kernel
theorem dX5_turn_12 : decode cX5_turn 12 = .ok (.invokevirtual 70, 3) := by decide +kernel
theorem dX5_turn_15 : decode cX5_turn 15 = .ok (.ireturn, 1) := by decide +kernel
theorem dX5_turn_16 : decode cX5_turn 16 = .ok (.aload_n 0, 1) := by decide +kernel
theorem dX5_turn_17 : decode cX5_turn 17 = .ok (.getfield 52, 3) := by decide +kernel
theorem dX5_turn_20 : decode cX5_turn 20 = .ok (.aload_n 2, 1) := by decide +kernel
theorem dX5_turn_21 : decode cX5_turn 21 = .ok (.aload_n 0, 1) := by decide +kernel
theorem dX5_turn_22 : decode cX5_turn 22 = .ok (.getfield 30, 3) := by decide +kernel
theorem dX5_turn_25 : decode cX5_turn 25 = .ok (.invokevirtual 180, 3) := by decide +kernel
theorem dX5_turn_28 : decode cX5_turn 28 = .ok (.ifCond .ne 10, 3) := by decide +kernel
theorem dX5_turn_31 : decode cX5_turn 31 = .ok (.aload_n 0, 1) := by decide +kernel
theorem dX5_turn_32 : decode cX5_turn 32 = .ok (.bipush (-2), 2) := by decide +kernel
theorem dX5_turn_34 : decode cX5_turn 34 = .ok (.invokevirtual 70, 3) := by decide +kernel
theorem dX5_turn_37 : decode cX5_turn 37 = .ok (.ireturn, 1) := by decide +kernel
theorem dX5_turn_38 : decode cX5_turn 38 = .ok (.aload_n 0, 1) := by decide +kernel
theorem dX5_turn_39 : decode cX5_turn 39 = .ok (.getfield 52, 3) := by decide +kernel
theorem dX5_turn_42 : decode cX5_turn 42 = .ok (.invokevirtual 186, 3) := by decide +kernel
theorem dX5_turn_45 : decode cX5_turn 45 = .ok (.istore_n 3, 1) := by decide +kernel
theorem dX5_turn_46 : decode cX5_turn 46 = .ok (.aload_n 0, 1) := by decide +kernel
theorem dX5_turn_47 : decode cX5_turn 47 = .ok (.getfield 45, 3) := by decide +kernel
theorem dX5_turn_50 : decode cX5_turn 50 = .ok (.iload_n 3, 1) := by decide +kernel
theorem dX5_turn_51 : decode cX5_turn 51 = .ok (.invokevirtual 113, 3) := by decide +kernel
theorem dX5_turn_54 : decode cX5_turn 54 = .ok (.ifCond .ne 10, 3) := by decide +kernel
theorem dX5_turn_57 : decode cX5_turn 57 = .ok (.aload_n 0, 1) := by decide +kernel
theorem dX5_turn_58 : decode cX5_turn 58 = .ok (.bipush (-6), 2) := by decide +kernel
theorem dX5_turn_60 : decode cX5_turn 60 = .ok (.invokevirtual 70, 3) := by decide +kernel
theorem dX5_turn_63 : decode cX5_turn 63 = .ok (.ireturn, 1) := by decide +kernel
theorem dX5_turn_64 : decode cX5_turn 64 = .ok (.aload_n 0, 1) := by decide +kernel
theorem dX5_turn_65 : decode cX5_turn 65 = .ok (.aload_n 2, 1) := by decide +kernel
theorem dX5_turn_66 : decode cX5_turn 66 = .ok (.invokevirtual 190, 3) := by decide +kernel
theorem dX5_turn_69 : decode cX5_turn 69 = .ok (.iload_n 3, 1) := by decide +kernel
theorem dX5_turn_70 : decode cX5_turn 70 = .ok (.ireturn, 1) := by decide +kernel
theorem dX5_wear_0 : decode cX5_wear 0 = .ok (.aload_n 0, 1) := by decide +kernel
theorem dX5_wear_1 : decode cX5_wear 1 = .ok (.iload_n 1, 1) := by decide +kernel
theorem dX5_wear_2 : decode cX5_wear 2 = .ok (.invokevirtual 132, 3) := by decide +kernel
theorem dX5_wear_5 : decode cX5_wear 5 = .ok (.astore_n 3, 1) := by decide +kernel
theorem dX5_wear_6 : decode cX5_wear 6 = .ok (.aload_n 3, 1) := by decide +kernel
theorem dX5_wear_7 : decode cX5_wear 7 = .ok (.ifnonnull 10, 3) := by decide +kernel
theorem dX5_wear_10 : decode cX5_wear 10 = .ok (.aload_n 0, 1) := by decide +kernel
theorem dX5_wear_11 : decode cX5_wear 11 = .ok (.iconst (-1), 1) := by decide +kernel
theorem dX5_wear_12 : decode cX5_wear 12 = .ok (.invokevirtual 70, 3) := by decide +kernel
theorem dX5_wear_15 : decode cX5_wear 15 = .ok (.i2l, 1) := by decide +kernel
theorem dX5_wear_16 : decode cX5_wear 16 = .ok (.lreturn, 1) := by decide +kernel
theorem dX5_wear_17 : decode cX5_wear 17 = .ok (.iload_n 2, 1) := by decide +kernel
theorem dX5_wear_18 : decode cX5_wear 18 = .ok (.lookupswitch 42 #[(0, 26), (1, 34)], 26) := by decide +kernel
theorem dX5_wear_44 : decode cX5_wear 44 = .ok (.aload_n 3, 1) := by decide +kernel
theorem dX5_wear_45 : decode cX5_wear 45 = .ok (.getfield 194, 3) := by decide +kernel
theorem dX5_wear_48 : decode cX5_wear 48 = .ok (.getfield 197, 3) := by decide +kernel
theorem dX5_wear_51 : decode cX5_wear 51 = .ok (.lreturn, 1) := by decide +kernel
theorem dX5_wear_52 : decode cX5_wear 52 = .ok (.aload_n 3, 1) := by decide +kernel
theorem dX5_wear_53 : decode cX5_wear 53 = .ok (.getfield 194, 3) := by decide +kernel
theorem dX5_wear_56 : decode cX5_wear 56 = .ok (.getfield 201, 3) := by decide +kernel
theorem dX5_wear_59 : decode cX5_wear 59 = .ok (.lreturn, 1) := by decide +kernel
theorem dX5_wear_60 : decode cX5_wear 60 = .ok (.aload_n 0, 1) := by decide +kernel
theorem dX5_wear_61 : decode cX5_wear 61 = .ok (.bipush (-2), 2) := by decide +kernel
theorem dX5_wear_63 : decode cX5_wear 63 = .ok (.invokevirtual 70, 3) := by decide +kernel
theorem dX5_wear_66 : decode cX5_wear 66 = .ok (.i2l, 1) := by decide +kernel
theorem dX5_wear_67 : decode cX5_wear 67 = .ok (.lreturn, 1) := by decide +kernel
theorem dX5_depth_0 : decode cX5_depth 0 = .ok (.aload_n 0, 1) := by decide +kernel
theorem dX5_depth_1 : decode cX5_depth 1 = .ok (.iload_n 1, 1) := by decide +kernel
theorem dX5_depth_2 : decode cX5_depth 2 = .ok (.invokevirtual 132, 3) := by decide +kernel
theorem dX5_depth_5 : decode cX5_depth 5 = .ok (.astore_n 3, 1) := by decide +kernel
theorem dX5_depth_6 : decode cX5_depth 6 = .ok (.aload_n 3, 1) := by decide +kernel
theorem dX5_depth_7 : decode cX5_depth 7 = .ok (.ifnonnull 9, 3) := by decide +kernel
theorem dX5_depth_10 : decode cX5_depth 10 = .ok (.aload_n 0, 1) := by decide +kernel
theorem dX5_depth_11 : decode cX5_depth 11 = .ok (.iconst (-1), 1) := by decide +kernel
theorem dX5_depth_12 : decode cX5_depth 12 = .ok (.invokevirtual 70, 3) := by decide +kernel
theorem dX5_depth_15 : decode cX5_depth 15 = .ok (.ireturn, 1) := by decide +kernel
theorem dX5_depth_16 : decode cX5_depth 16 = .ok (.iload_n 2, 1) := by decide +kernel
theorem dX5_depth_17 : decode cX5_depth 17 = .ok (.iconst 0, 1) := by decide +kernel
theorem dX5_depth_18 : decode cX5_depth 18 = .ok (.ldc 171, 2) := by decide +kernel
theorem dX5_depth_20 : decode cX5_depth 20 = .ok (.invokestatic 92, 3) := by decide +kernel
theorem dX5_depth_23 : decode cX5_depth 23 = .ok (.istore 4, 2) := by decide +kernel
theorem dX5_depth_25 : decode cX5_depth 25 = .ok (.iload 4, 2) := by decide +kernel
theorem dX5_depth_27 : decode cX5_depth 27 = .ok (.ifCond .eq 10, 3) := by decide +kernel
theorem dX5_depth_30 : decode cX5_depth 30 = .ok (.aload_n 0, 1) := by decide +kernel
theorem dX5_depth_31 : decode cX5_depth 31 = .ok (.iload 4, 2) := by decide +kernel
theorem dX5_depth_33 : decode cX5_depth 33 = .ok (.invokevirtual 70, 3) := by decide +kernel
theorem dX5_depth_36 : decode cX5_depth 36 = .ok (.ireturn, 1) := by decide +kernel
theorem dX5_depth_37 : decode cX5_depth 37 = .ok (.aload_n 3, 1) := by decide +kernel
theorem dX5_depth_38 : decode cX5_depth 38 = .ok (.iload_n 2, 1) := by decide +kernel
theorem dX5_depth_39 : decode cX5_depth 39 = .ok (.invokevirtual 204, 3) := by decide +kernel
theorem dX5_depth_42 : decode cX5_depth 42 = .ok (.ireturn, 1) := by decide +kernel
theorem dX5_end_0 : decode cX5_end 0 = .ok (.aload_n 0, 1) := by decide +kernel
theorem dX5_end_1 : decode cX5_end 1 = .ok (.iload_n 1, 1) := by decide +kernel
theorem dX5_end_2 : decode cX5_end 2 = .ok (.invokevirtual 132, 3) := by decide +kernel
theorem dX5_end_5 : decode cX5_end 5 = .ok (.astore_n 3, 1) := by decide +kernel
theorem dX5_end_6 : decode cX5_end 6 = .ok (.aload_n 3, 1) := by decide +kernel
theorem dX5_end_7 : decode cX5_end 7 = .ok (.ifnonnull 9, 3) := by decide +kernel
theorem dX5_end_10 : decode cX5_end 10 = .ok (.aload_n 0, 1) := by decide +kernel
theorem dX5_end_11 : decode cX5_end 11 = .ok (.iconst (-1), 1) := by decide +kernel
theorem dX5_end_12 : decode cX5_end 12 = .ok (.invokevirtual 70, 3) := by decide +kernel
theorem dX5_end_15 : decode cX5_end 15 = .ok (.ireturn, 1) := by decide +kernel
theorem dX5_end_16 : decode cX5_end 16 = .ok (.iload_n 2, 1) := by decide +kernel
theorem dX5_end_17 : decode cX5_end 17 = .ok (.iconst 0, 1) := by decide +kernel
theorem dX5_end_18 : decode cX5_end 18 = .ok (.sipush 300, 3) := by decide +kernel
theorem dX5_end_21 : decode cX5_end 21 = .ok (.invokestatic 92, 3) := by decide +kernel
theorem dX5_end_24 : decode cX5_end 24 = .ok (.istore 4, 2) := by decide +kernel
theorem dX5_end_26 : decode cX5_end 26 = .ok (.iload 4, 2) := by decide +kernel
theorem dX5_end_28 : decode cX5_end 28 = .ok (.ifCond .eq 10, 3) := by decide +kernel
theorem dX5_end_31 : decode cX5_end 31 = .ok (.aload_n 0, 1) := by decide +kernel
theorem dX5_end_32 : decode cX5_end 32 = .ok (.iload 4, 2) := by decide +kernel
theorem dX5_end_34 : decode cX5_end 34 = .ok (.invokevirtual 70, 3) := by decide +kernel
theorem dX5_end_37 : decode cX5_end 37 = .ok (.ireturn, 1) := by decide +kernel
theorem dX5_end_38 : decode cX5_end 38 = .ok (.aload_n 3, 1) := by decide +kernel
theorem dX5_end_39 : decode cX5_end 39 = .ok (.iload_n 2, 1) := by decide +kernel
theorem dX5_end_40 : decode cX5_end 40 = .ok (.invokevirtual 207, 3) := by decide +kernel
theorem dX5_end_43 : decode cX5_end 43 = .ok (.ireturn, 1) := by decide +kernel
theorem dX5_send_0 : decode cX5_send 0 = .ok (.aload_n 0, 1) := by decide +kernel
theorem dX5_send_1 : decode cX5_send 1 = .ok (.iload_n 1, 1) := by decide +kernel
theorem dX5_send_2 : decode cX5_send 2 = .ok (.invokevirtual 132, 3) := by decide +kernel
theorem dX5_send_5 : decode cX5_send 5 = .ok (.astore_n 2, 1) := by decide +kernel
theorem dX5_send_6 : decode cX5_send 6 = .ok (.aload_n 2, 1) := by decide +kernel
theorem dX5_send_7 : decode cX5_send 7 = .ok (.ifnonnull 9, 3) := by decide +kernel
theorem dX5_send_10 : decode cX5_send 10 = .ok (.aload_n 0, 1) := by decide +kernel
