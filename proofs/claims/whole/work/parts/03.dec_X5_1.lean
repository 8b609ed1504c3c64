theorem dX5_send_11 : decode cX5_send 11 = .ok (.iconst (-1), 1) := by decide +kernel
theorem dX5_send_12 : decode cX5_send 12 = .ok (.invokevirtual 70, 3) := by decide +kernel
theorem dX5_send_15 : decode cX5_send 15 = .ok (.ireturn, 1) := by decide +kernel
theorem dX5_send_16 : decode cX5_send 16 = .ok (.aload_n 2, 1) := by decide +kernel
theorem dX5_send_17 : decode cX5_send 17 = .ok (.getfield 139, 3) := by decide +kernel
theorem dX5_send_20 : decode cX5_send 20 = .ok (.iconst (-1), 1) := by decide +kernel
theorem dX5_send_21 : decode cX5_send 21 = .ok (.if_icmp .ne 19, 3) := by decide +kernel
theorem dX5_send_24 : decode cX5_send 24 = .ok (.aload_n 2, 1) := by decide +kernel
theorem dX5_send_25 : decode cX5_send 25 = .ok (.getfield 210, 3) := by decide +kernel
theorem dX5_send_28 : decode cX5_send 28 = .ok (.iconst 2, 1) := by decide +kernel
theorem dX5_send_29 : decode cX5_send 29 = .ok (.if_icmp .ge 11, 3) := by decide +kernel
theorem dX5_send_32 : decode cX5_send 32 = .ok (.aload_n 2, 1) := by decide +kernel
theorem dX5_send_33 : decode cX5_send 33 = .ok (.getfield 213, 3) := by decide +kernel
theorem dX5_send_36 : decode cX5_send 36 = .ok (.iconst 3, 1) := by decide +kernel
theorem dX5_send_37 : decode cX5_send 37 = .ok (.if_icmp .lt 10, 3) := by decide +kernel
theorem dX5_send_40 : decode cX5_send 40 = .ok (.aload_n 0, 1) := by decide +kernel
theorem dX5_send_41 : decode cX5_send 41 = .ok (.bipush (-2), 2) := by decide +kernel
theorem dX5_send_43 : decode cX5_send 43 = .ok (.invokevirtual 70, 3) := by decide +kernel
theorem dX5_send_46 : decode cX5_send 46 = .ok (.ireturn, 1) := by decide +kernel
theorem dX5_send_47 : decode cX5_send 47 = .ok (.aload_n 0, 1) := by decide +kernel
theorem dX5_send_48 : decode cX5_send 48 = .ok (.getfield 45, 3) := by decide +kernel
theorem dX5_send_51 : decode cX5_send 51 = .ok (.iconst 1, 1) := by decide +kernel
theorem dX5_send_52 : decode cX5_send 52 = .ok (.invokevirtual 113, 3) := by decide +kernel
theorem dX5_send_55 : decode cX5_send 55 = .ok (.ifCond .eq 16, 3) := by decide +kernel
theorem dX5_send_58 : decode cX5_send 58 = .ok (.aload_n 0, 1) := by decide +kernel
theorem dX5_send_59 : decode cX5_send 59 = .ok (.getfield 116, 3) := by decide +kernel
theorem dX5_send_62 : decode cX5_send 62 = .ok (.bipush 10, 2) := by decide +kernel
theorem dX5_send_64 : decode cX5_send 64 = .ok (.iadd, 1) := by decide +kernel
theorem dX5_send_65 : decode cX5_send 65 = .ok (.sipush 2000, 3) := by decide +kernel
theorem dX5_send_68 : decode cX5_send 68 = .ok (.if_icmp .le 10, 3) := by decide +kernel
theorem dX5_send_71 : decode cX5_send 71 = .ok (.aload_n 0, 1) := by decide +kernel
theorem dX5_send_72 : decode cX5_send 72 = .ok (.bipush (-6), 2) := by decide +kernel
theorem dX5_send_74 : decode cX5_send 74 = .ok (.invokevirtual 70, 3) := by decide +kernel
theorem dX5_send_77 : decode cX5_send 77 = .ok (.ireturn, 1) := by decide +kernel
theorem dX5_send_78 : decode cX5_send 78 = .ok (.aload_n 2, 1) := by decide +kernel
theorem dX5_send_79 : decode cX5_send 79 = .ok (.aload_n 0, 1) := by decide +kernel
theorem dX5_send_80 : decode cX5_send 80 = .ok (.getfield 116, 3) := by decide +kernel
theorem dX5_send_83 : decode cX5_send 83 = .ok (.bipush 10, 2) := by decide +kernel
theorem dX5_send_85 : decode cX5_send 85 = .ok (.iadd, 1) := by decide +kernel
theorem dX5_send_86 : decode cX5_send 86 = .ok (.putfield 216, 3) := by decide +kernel
theorem dX5_send_89 : decode cX5_send 89 = .ok (.aload_n 0, 1) := by decide +kernel
theorem dX5_send_90 : decode cX5_send 90 = .ok (.aload_n 2, 1) := by decide +kernel
theorem dX5_send_91 : decode cX5_send 91 = .ok (.bipush (-2), 2) := by decide +kernel
theorem dX5_send_93 : decode cX5_send 93 = .ok (.invokevirtual 128, 3) := by decide +kernel
theorem dX5_send_96 : decode cX5_send 96 = .ok (.aload_n 2, 1) := by decide +kernel
theorem dX5_send_97 : decode cX5_send 97 = .ok (.getfield 216, 3) := by decide +kernel
theorem dX5_send_100 : decode cX5_send 100 = .ok (.ireturn, 1) := by decide +kernel
theorem dX5_mend_0 : decode cX5_mend 0 = .ok (.aload_n 0, 1) := by decide +kernel
theorem dX5_mend_1 : decode cX5_mend 1 = .ok (.iload_n 1, 1) := by decide +kernel
theorem dX5_mend_2 : decode cX5_mend 2 = .ok (.invokevirtual 132, 3) := by decide +kernel
theorem dX5_mend_5 : decode cX5_mend 5 = .ok (.astore_n 2, 1) := by decide +kernel
theorem dX5_mend_6 : decode cX5_mend 6 = .ok (.aload_n 2, 1) := by decide +kernel
theorem dX5_mend_7 : decode cX5_mend 7 = .ok (.ifnonnull 9, 3) := by decide +kernel
theorem dX5_mend_10 : decode cX5_mend 10 = .ok (.aload_n 0, 1) := by decide +kernel
theorem dX5_mend_11 : decode cX5_mend 11 = .ok (.iconst (-1), 1) := by decide +kernel
theorem dX5_mend_12 : decode cX5_mend 12 = .ok (.invokevirtual 70, 3) := by decide +kernel
theorem dX5_mend_15 : decode cX5_mend 15 = .ok (.ireturn, 1) := by decide +kernel
theorem dX5_mend_16 : decode cX5_mend 16 = .ok (.aload_n 2, 1) := by decide +kernel
theorem dX5_mend_17 : decode cX5_mend 17 = .ok (.getfield 139, 3) := by decide +kernel
theorem dX5_mend_20 : decode cX5_mend 20 = .ok (.iconst (-1), 1) := by decide +kernel
theorem dX5_mend_21 : decode cX5_mend 21 = .ok (.if_icmp .eq 10, 3) := by decide +kernel
theorem dX5_mend_24 : decode cX5_mend 24 = .ok (.aload_n 0, 1) := by decide +kernel
theorem dX5_mend_25 : decode cX5_mend 25 = .ok (.bipush (-2), 2) := by decide +kernel
theorem dX5_mend_27 : decode cX5_mend 27 = .ok (.invokevirtual 70, 3) := by decide +kernel
theorem dX5_mend_30 : decode cX5_mend 30 = .ok (.ireturn, 1) := by decide +kernel
theorem dX5_mend_31 : decode cX5_mend 31 = .ok (.aload_n 2, 1) := by decide +kernel
theorem dX5_mend_32 : decode cX5_mend 32 = .ok (.getfield 213, 3) := by decide +kernel
theorem dX5_mend_35 : decode cX5_mend 35 = .ok (.bipush 9, 2) := by decide +kernel
theorem dX5_mend_37 : decode cX5_mend 37 = .ok (.if_icmp .lt 10, 3) := by decide +kernel
theorem dX5_mend_40 : decode cX5_mend 40 = .ok (.aload_n 0, 1) := by decide +kernel
theorem dX5_mend_41 : decode cX5_mend 41 = .ok (.bipush (-6), 2) := by decide +kernel
theorem dX5_mend_43 : decode cX5_mend 43 = .ok (.invokevirtual 70, 3) := by decide +kernel
theorem dX5_mend_46 : decode cX5_mend 46 = .ok (.ireturn, 1) := by decide +kernel
theorem dX5_mend_47 : decode cX5_mend 47 = .ok (.aload_n 2, 1) := by decide +kernel
theorem dX5_mend_48 : decode cX5_mend 48 = .ok (.dup, 1) := by decide +kernel
theorem dX5_mend_49 : decode cX5_mend 49 = .ok (.getfield 213, 3) := by decide +kernel
theorem dX5_mend_52 : decode cX5_mend 52 = .ok (.iconst 1, 1) := by decide +kernel
theorem dX5_mend_53 : decode cX5_mend 53 = .ok (.iadd, 1) := by decide +kernel
theorem dX5_mend_54 : decode cX5_mend 54 = .ok (.putfield 213, 3) := by decide +kernel
theorem dX5_mend_57 : decode cX5_mend 57 = .ok (.aload_n 2, 1) := by decide +kernel
theorem dX5_mend_58 : decode cX5_mend 58 = .ok (.getfield 213, 3) := by decide +kernel
theorem dX5_mend_61 : decode cX5_mend 61 = .ok (.ireturn, 1) := by decide +kernel
theorem dX5_cast_0 : decode cX5_cast 0 = .ok (.aload_n 0, 1) := by decide +kernel
theorem dX5_cast_1 : decode cX5_cast 1 = .ok (.iload_n 1, 1) := by decide +kernel
theorem dX5_cast_2 : decode cX5_cast 2 = .ok (.invokevirtual 132, 3) := by decide +kernel
theorem dX5_cast_5 : decode cX5_cast 5 = .ok (.astore_n 2, 1) := by decide +kernel
theorem dX5_cast_6 : decode cX5_cast 6 = .ok (.aload_n 2, 1) := by decide +kernel
theorem dX5_cast_7 : decode cX5_cast 7 = .ok (.ifnonnull 9, 3) := by decide +kernel
theorem dX5_cast_10 : decode cX5_cast 10 = .ok (.aload_n 0, 1) := by decide +kernel
theorem dX5_cast_11 : decode cX5_cast 11 = .ok (.iconst (-1), 1) := by decide +kernel
theorem dX5_cast_12 : decode cX5_cast 12 = .ok (.invokevirtual 70, 3) := by decide +kernel
theorem dX5_cast_15 : decode cX5_cast 15 = .ok (.ireturn, 1) := by decide +kernel
theorem dX5_cast_16 : decode cX5_cast 16 = .ok (.aload_n 2, 1) := by decide +kernel
theorem dX5_cast_17 : decode cX5_cast 17 = .ok (.getfield 139, 3) := by decide +kernel
theorem dX5_cast_20 : decode cX5_cast 20 = .ok (.iconst (-1), 1) := by decide +kernel
theorem dX5_cast_21 : decode cX5_cast 21 = .ok (.if_icmp .eq 10, 3) := by decide +kernel
theorem dX5_cast_24 : decode cX5_cast 24 = .ok (.aload_n 0, 1) := by decide +kernel
theorem dX5_cast_25 : decode cX5_cast 25 = .ok (.bipush (-2), 2) := by decide +kernel
theorem dX5_cast_27 : decode cX5_cast 27 = .ok (.invokevirtual 70, 3) := by decide +kernel
theorem dX5_cast_30 : decode cX5_cast 30 = .ok (.ireturn, 1) := by decide +kernel
theorem dX5_cast_31 : decode cX5_cast 31 = .ok (.aload_n 0, 1) := by decide +kernel
theorem dX5_cast_32 : decode cX5_cast 32 = .ok (.getfield 45, 3) := by decide +kernel
theorem dX5_cast_35 : decode cX5_cast 35 = .ok (.iconst 1, 1) := by decide +kernel
theorem dX5_cast_36 : decode cX5_cast 36 = .ok (.invokevirtual 113, 3) := by decide +kernel
theorem dX5_cast_39 : decode cX5_cast 39 = .ok (.ifCond .ne 10, 3) := by decide +kernel
theorem dX5_cast_42 : decode cX5_cast 42 = .ok (.aload_n 0, 1) := by decide +kernel
theorem dX5_cast_43 : decode cX5_cast 43 = .ok (.bipush (-6), 2) := by decide +kernel
theorem dX5_cast_45 : decode cX5_cast 45 = .ok (.invokevirtual 70, 3) := by decide +kernel
theorem dX5_cast_48 : decode cX5_cast 48 = .ok (.ireturn, 1) := by decide +kernel
theorem dX5_cast_49 : decode cX5_cast 49 = .ok (.aload_n 0, 1) := by decide +kernel
theorem dX5_cast_50 : decode cX5_cast 50 = .ok (.aload_n 2, 1) := by decide +kernel
theorem dX5_cast_51 : decode cX5_cast 51 = .ok (.bipush (-3), 2) := by decide +kernel
theorem dX5_cast_53 : decode cX5_cast 53 = .ok (.invokevirtual 128, 3) := by decide +kernel
theorem dX5_cast_56 : decode cX5_cast 56 = .ok (.iconst 1, 1) := by decide +kernel
theorem dX5_cast_57 : decode cX5_cast 57 = .ok (.ireturn, 1) := by decide +kernel
theorem dX5_days_0 : decode cX5_days 0 = .ok (.iload_n 1, 1) := by decide +kernel
theorem dX5_days_1 : decode cX5_days 1 = .ok (.iconst 1, 1) := by decide +kernel
theorem dX5_days_2 : decode cX5_days 2 = .ok (.sipush 2000, 3) := by decide +kernel
theorem dX5_days_5 : decode cX5_days 5 = .ok (.aload_n 0, 1) := by decide +kernel
theorem dX5_days_6 : decode cX5_days 6 = .ok (.getfield 116, 3) := by decide +kernel
theorem dX5_days_9 : decode cX5_days 9 = .ok (.isub, 1) := by decide +kernel
theorem dX5_days_10 : decode cX5_days 10 = .ok (.invokestatic 92, 3) := by decide +kernel
theorem dX5_days_13 : decode cX5_days 13 = .ok (.istore_n 2, 1) := by decide +kernel
theorem dX5_days_14 : decode cX5_days 14 = .ok (.iload_n 2, 1) := by decide +kernel
theorem dX5_days_15 : decode cX5_days 15 = .ok (.ifCond .eq 9, 3) := by decide +kernel
theorem dX5_days_18 : decode cX5_days 18 = .ok (.aload_n 0, 1) := by decide +kernel
theorem dX5_days_19 : decode cX5_days 19 = .ok (.iload_n 2, 1) := by decide +kernel
theorem dX5_days_20 : decode cX5_days 20 = .ok (.invokevirtual 70, 3) := by decide +kernel
theorem dX5_days_23 : decode cX5_days 23 = .ok (.ireturn, 1) := by decide +kernel
theorem dX5_days_24 : decode cX5_days 24 = .ok (.aload_n 0, 1) := by decide +kernel
theorem dX5_days_25 : decode cX5_days 25 = .ok (.getfield 116, 3) := by decide +kernel
theorem dX5_days_28 : decode cX5_days 28 = .ok (.iload_n 1, 1) := by decide +kernel
theorem dX5_days_29 : decode cX5_days 29 = .ok (.iadd, 1) := by decide +kernel
theorem dX5_days_30 : decode cX5_days 30 = .ok (.istore_n 3, 1) := by decide +kernel
theorem dX5_days_31 : decode cX5_days 31 = .ok (.iconst 0, 1) := by decide +kernel
theorem dX5_days_32 : decode cX5_days 32 = .ok (.istore 4, 2) := by decide +kernel
theorem dX5_days_34 : decode cX5_days 34 = .ok (.iload 4, 2) := by decide +kernel
theorem dX5_days_36 : decode cX5_days 36 = .ok (.bipush 40, 2) := by decide +kernel
theorem dX5_days_38 : decode cX5_days 38 = .ok (.if_icmp .ge 39, 3) := by decide +kernel
theorem dX5_days_41 : decode cX5_days 41 = .ok (.aload_n 0, 1) := by decide +kernel
theorem dX5_days_42 : decode cX5_days 42 = .ok (.iload_n 3, 1) := by decide +kernel
theorem dX5_days_43 : decode cX5_days 43 = .ok (.invokevirtual 219, 3) := by decide +kernel
theorem dX5_days_46 : decode cX5_days 46 = .ok (.astore 5, 2) := by decide +kernel
theorem dX5_days_48 : decode cX5_days 48 = .ok (.aload 5, 2) := by decide +kernel
theorem dX5_days_50 : decode cX5_days 50 = .ok (.ifnonnull 6, 3) := by decide +kernel
theorem dX5_days_53 : decode cX5_days 53 = .ok (.goto 24, 3) := by decide +kernel
theorem dX5_days_56 : decode cX5_days 56 = .ok (.aload_n 0, 1) := by decide +kernel
theorem dX5_days_57 : decode cX5_days 57 = .ok (.aload 5, 2) := by decide +kernel
theorem dX5_days_59 : decode cX5_days 59 = .ok (.getfield 216, 3) := by decide +kernel
theorem dX5_days_62 : decode cX5_days 62 = .ok (.putfield 116, 3) := by decide +kernel
theorem dX5_days_65 : decode cX5_days 65 = .ok (.aload_n 0, 1) := by decide +kernel
theorem dX5_days_66 : decode cX5_days 66 = .ok (.aload 5, 2) := by decide +kernel
theorem dX5_days_68 : decode cX5_days 68 = .ok (.invokevirtual 222, 3) := by decide +kernel
theorem dX5_days_71 : decode cX5_days 71 = .ok (.iinc 4 1, 3) := by decide +kernel
theorem dX5_days_74 : decode cX5_days 74 = .ok (.goto (-40), 3) := by decide +kernel
theorem dX5_days_77 : decode cX5_days 77 = .ok (.aload_n 0, 1) := by decide +kernel
theorem dX5_days_78 : decode cX5_days 78 = .ok (.iload_n 3, 1) := by decide +kernel
theorem dX5_days_79 : decode cX5_days 79 = .ok (.putfield 116, 3) := by decide +kernel
theorem dX5_days_82 : decode cX5_days 82 = .ok (.aload_n 0, 1) := by decide +kernel
theorem dX5_days_83 : decode cX5_days 83 = .ok (.getfield 116, 3) := by decide +kernel
theorem dX5_days_86 : decode cX5_days 86 = .ok (.ireturn, 1) := by decide +kernel
theorem dX5_few_0 : decode cX5_few 0 = .ok (.aload_n 0, 1) := by decide +kernel
theorem dX5_few_1 : decode cX5_few 1 = .ok (.iload_n 1, 1) := by decide +kernel
theorem dX5_few_2 : decode cX5_few 2 = .ok (.invokevirtual 77, 3) := by decide +kernel
theorem dX5_few_5 : decode cX5_few 5 = .ok (.astore 4, 2) := by decide +kernel
theorem dX5_few_7 : decode cX5_few 7 = .ok (.aload 4, 2) := by decide +kernel
theorem dX5_few_9 : decode cX5_few 9 = .ok (.ifnull 10, 3) := by decide +kernel
theorem dX5_few_12 : decode cX5_few 12 = .ok (.iload_n 2, 1) := by decide +kernel
theorem dX5_few_13 : decode cX5_few 13 = .ok (.invokestatic 104, 3) := by decide +kernel
theorem dX5_few_16 : decode cX5_few 16 = .ok (.ifCond .ne 9, 3) := by decide +kernel
theorem dX5_few_19 : decode cX5_few 19 = .ok (.aload_n 0, 1) := by decide +kernel
theorem dX5_few_20 : decode cX5_few 20 = .ok (.iconst (-1), 1) := by decide +kernel
theorem dX5_few_21 : decode cX5_few 21 = .ok (.invokevirtual 70, 3) := by decide +kernel
theorem dX5_few_24 : decode cX5_few 24 = .ok (.ireturn, 1) := by decide +kernel
theorem dX5_few_25 : decode cX5_few 25 = .ok (.iload_n 3, 1) := by decide +kernel
theorem dX5_few_26 : decode cX5_few 26 = .ok (.iconst 0, 1) := by decide +kernel
theorem dX5_few_27 : decode cX5_few 27 = .ok (.ldc 171, 2) := by decide +kernel
theorem dX5_few_29 : decode cX5_few 29 = .ok (.invokestatic 92, 3) := by decide +kernel
theorem dX5_few_32 : decode cX5_few 32 = .ok (.istore 5, 2) := by decide +kernel
theorem dX5_few_34 : decode cX5_few 34 = .ok (.iload 5, 2) := by decide +kernel
theorem dX5_few_36 : decode cX5_few 36 = .ok (.ifCond .eq 10, 3) := by decide +kernel
theorem dX5_few_39 : decode cX5_few 39 = .ok (.aload_n 0, 1) := by decide +kernel
theorem dX5_few_40 : decode cX5_few 40 = .ok (.iload 5, 2) := by decide +kernel
theorem dX5_few_42 : decode cX5_few 42 = .ok (.invokevirtual 70, 3) := by decide +kernel
theorem dX5_few_45 : decode cX5_few 45 = .ok (.ireturn, 1) := by decide +kernel
theorem dX5_few_46 : decode cX5_few 46 = .ok (.aload_n 0, 1) := by decide +kernel
theorem dX5_few_47 : decode cX5_few 47 = .ok (.getfield 59, 3) := by decide +kernel
theorem dX5_few_50 : decode cX5_few 50 = .ok (.aload_n 0, 1) := by decide +kernel
theorem dX5_few_51 : decode cX5_few 51 = .ok (.getfield 36, 3) := by decide +kernel
theorem dX5_few_54 : decode cX5_few 54 = .ok (.iload_n 2, 1) := by decide +kernel
theorem dX5_few_55 : decode cX5_few 55 = .ok (.invokestatic 96, 3) := by decide +kernel
theorem dX5_few_58 : decode cX5_few 58 = .ok (.i2l, 1) := by decide +kernel
theorem dX5_few_59 : decode cX5_few 59 = .ok (.ldc2_w 226, 3) := by decide +kernel
theorem dX5_few_62 : decode cX5_few 62 = .ok (.invokevirtual 228, 3) := by decide +kernel
theorem dX5_few_65 : decode cX5_few 65 = .ok (.iconst 0, 1) := by decide +kernel
theorem dX5_few_66 : decode cX5_few 66 = .ok (.istore 6, 2) := by decide +kernel
theorem dX5_few_68 : decode cX5_few 68 = .ok (.iconst 0, 1) := by decide +kernel
theorem dX5_few_69 : decode cX5_few 69 = .ok (.istore 7, 2) := by decide +kernel
theorem dX5_few_71 : decode cX5_few 71 = .ok (.iload 7, 2) := by decide +kernel
theorem dX5_few_73 : decode cX5_few 73 = .ok (.aload 4, 2) := by decide +kernel
theorem dX5_few_75 : decode cX5_few 75 = .ok (.getfield 232, 3) := by decide +kernel
theorem dX5_few_78 : decode cX5_few 78 = .ok (.if_icmp .ge 23, 3) := by decide +kernel
theorem dX5_few_81 : decode cX5_few 81 = .ok (.iload 6, 2) := by decide +kernel
theorem dX5_few_83 : decode cX5_few 83 = .ok (.aload_n 0, 1) := by decide +kernel
theorem dX5_few_84 : decode cX5_few 84 = .ok (.aload 4, 2) := by decide +kernel
theorem dX5_few_86 : decode cX5_few 86 = .ok (.iload 7, 2) := by decide +kernel
theorem dX5_few_88 : decode cX5_few 88 = .ok (.iload_n 3, 1) := by decide +kernel
theorem dX5_few_89 : decode cX5_few 89 = .ok (.invokevirtual 235, 3) := by decide +kernel
theorem dX5_few_92 : decode cX5_few 92 = .ok (.iadd, 1) := by decide +kernel
theorem dX5_few_93 : decode cX5_few 93 = .ok (.istore 6, 2) := by decide +kernel
theorem dX5_few_95 : decode cX5_few 95 = .ok (.iinc 7 1, 3) := by decide +kernel
theorem dX5_few_98 : decode cX5_few 98 = .ok (.goto (-27), 3) := by decide +kernel
theorem dX5_few_101 : decode cX5_few 101 = .ok (.iload 6, 2) := by decide +kernel
theorem dX5_few_103 : decode cX5_few 103 = .ok (.ireturn, 1) := by decide +kernel
theorem dX5_asOf_0 : decode cX5_asOf 0 = .ok (.aload_n 0, 1) := by decide +kernel
theorem dX5_asOf_1 : decode cX5_asOf 1 = .ok (.iload_n 1, 1) := by decide +kernel
theorem dX5_asOf_2 : decode cX5_asOf 2 = .ok (.invokevirtual 132, 3) := by decide +kernel
theorem dX5_asOf_5 : decode cX5_asOf 5 = .ok (.astore_n 3, 1) := by decide +kernel
theorem dX5_asOf_6 : decode cX5_asOf 6 = .ok (.aload_n 3, 1) := by decide +kernel
theorem dX5_asOf_7 : decode cX5_asOf 7 = .ok (.ifnonnull 12, 3) := by decide +kernel
theorem dX5_asOf_10 : decode cX5_asOf 10 = .ok (.aload_n 0, 1) := by decide +kernel
theorem dX5_asOf_11 : decode cX5_asOf 11 = .ok (.iconst (-1), 1) := by decide +kernel
theorem dX5_asOf_12 : decode cX5_asOf 12 = .ok (.invokevirtual 70, 3) := by decide +kernel
theorem dX5_asOf_15 : decode cX5_asOf 15 = .ok (.bipush 10, 2) := by decide +kernel
theorem dX5_asOf_17 : decode cX5_asOf 17 = .ok (.isub, 1) := by decide +kernel
theorem dX5_asOf_18 : decode cX5_asOf 18 = .ok (.ireturn, 1) := by decide +kernel
theorem dX5_asOf_19 : decode cX5_asOf 19 = .ok (.iload_n 2, 1) := by decide +kernel
theorem dX5_asOf_20 : decode cX5_asOf 20 = .ok (.iconst 0, 1) := by decide +kernel
theorem dX5_asOf_21 : decode cX5_asOf 21 = .ok (.aload_n 0, 1) := by decide +kernel
theorem dX5_asOf_22 : decode cX5_asOf 22 = .ok (.getfield 116, 3) := by decide +kernel
theorem dX5_asOf_25 : decode cX5_asOf 25 = .ok (.invokestatic 92, 3) := by decide +kernel
theorem dX5_asOf_28 : decode cX5_asOf 28 = .ok (.istore 4, 2) := by decide +kernel
theorem dX5_asOf_30 : decode cX5_asOf 30 = .ok (.iload 4, 2) := by decide +kernel
theorem dX5_asOf_32 : decode cX5_asOf 32 = .ok (.ifCond .eq 13, 3) := by decide +kernel
theorem dX5_asOf_35 : decode cX5_asOf 35 = .ok (.aload_n 0, 1) := by decide +kernel
theorem dX5_asOf_36 : decode cX5_asOf 36 = .ok (.iload 4, 2) := by decide +kernel
theorem dX5_asOf_38 : decode cX5_asOf 38 = .ok (.invokevirtual 70, 3) := by decide +kernel
theorem dX5_asOf_41 : decode cX5_asOf 41 = .ok (.bipush 10, 2) := by decide +kernel
theorem dX5_asOf_43 : decode cX5_asOf 43 = .ok (.isub, 1) := by decide +kernel
theorem dX5_asOf_44 : decode cX5_asOf 44 = .ok (.ireturn, 1) := by decide +kernel
theorem dX5_asOf_45 : decode cX5_asOf 45 = .ok (.aload_n 0, 1) := by decide +kernel
theorem dX5_asOf_46 : decode cX5_asOf 46 = .ok (.getfield 45, 3) := by decide +kernel
theorem dX5_asOf_49 : decode cX5_asOf 49 = .ok (.aload_n 3, 1) := by decide +kernel
theorem dX5_asOf_50 : decode cX5_asOf 50 = .ok (.getfield 125, 3) := by decide +kernel
theorem dX5_asOf_53 : decode cX5_asOf 53 = .ok (.iload_n 2, 1) := by decide +kernel
theorem dX5_asOf_54 : decode cX5_asOf 54 = .ok (.invokevirtual 239, 3) := by decide +kernel
theorem dX5_asOf_57 : decode cX5_asOf 57 = .ok (.ireturn, 1) := by decide +kernel
theorem dX5_tyreOf_0 : decode cX5_tyreOf 0 = .ok (.aload_n 0, 1) := by decide +kernel
theorem dX5_tyreOf_1 : decode cX5_tyreOf 1 = .ok (.iload_n 1, 1) := by decide +kernel
theorem dX5_tyreOf_2 : decode cX5_tyreOf 2 = .ok (.invokevirtual 132, 3) := by decide +kernel
theorem dX5_tyreOf_5 : decode cX5_tyreOf 5 = .ok (.astore_n 3, 1) := by decide +kernel
theorem dX5_tyreOf_6 : decode cX5_tyreOf 6 = .ok (.aload_n 3, 1) := by decide +kernel
theorem dX5_tyreOf_7 : decode cX5_tyreOf 7 = .ok (.ifnonnull 6, 3) := by decide +kernel
theorem dX5_tyreOf_10 : decode cX5_tyreOf 10 = .ok (.bipush (-20), 2) := by decide +kernel
theorem dX5_tyreOf_12 : decode cX5_tyreOf 12 = .ok (.ireturn, 1) := by decide +kernel
theorem dX5_tyreOf_13 : decode cX5_tyreOf 13 = .ok (.iload_n 2, 1) := by decide +kernel
theorem dX5_tyreOf_14 : decode cX5_tyreOf 14 = .ok (.tableswitch 96 0 8 #[50, 55, 60, 65, 70, 75, 80, 85, 91], 50) := by decide +kernel
theorem dX5_tyreOf_64 : decode cX5_tyreOf 64 = .ok (.aload_n 3, 1) := by decide +kernel
theorem dX5_tyreOf_65 : decode cX5_tyreOf 65 = .ok (.getfield 155, 3) := by decide +kernel
theorem dX5_tyreOf_68 : decode cX5_tyreOf 68 = .ok (.ireturn, 1) := by decide +kernel
theorem dX5_tyreOf_69 : decode cX5_tyreOf 69 = .ok (.aload_n 3, 1) := by decide +kernel
theorem dX5_tyreOf_70 : decode cX5_tyreOf 70 = .ok (.getfield 243, 3) := by decide +kernel
theorem dX5_tyreOf_73 : decode cX5_tyreOf 73 = .ok (.ireturn, 1) := by decide +kernel
theorem dX5_tyreOf_74 : decode cX5_tyreOf 74 = .ok (.aload_n 3, 1) := by decide +kernel
theorem dX5_tyreOf_75 : decode cX5_tyreOf 75 = .ok (.getfield 210, 3) := by decide +kernel
theorem dX5_tyreOf_78 : decode cX5_tyreOf 78 = .ok (.ireturn, 1) := by decide +kernel
theorem dX5_tyreOf_79 : decode cX5_tyreOf 79 = .ok (.aload_n 3, 1) := by decide +kernel
theorem dX5_tyreOf_80 : decode cX5_tyreOf 80 = .ok (.getfield 213, 3) := by decide +kernel
theorem dX5_tyreOf_83 : decode cX5_tyreOf 83 = .ok (.ireturn, 1) := by decide +kernel
theorem dX5_tyreOf_84 : decode cX5_tyreOf 84 = .ok (.aload_n 3, 1) := by decide +kernel
theorem dX5_tyreOf_85 : decode cX5_tyreOf 85 = .ok (.getfield 246, 3) := by decide +kernel
theorem dX5_tyreOf_88 : decode cX5_tyreOf 88 = .ok (.ireturn, 1) := by decide +kernel
theorem dX5_tyreOf_89 : decode cX5_tyreOf 89 = .ok (.aload_n 3, 1) := by decide +kernel
theorem dX5_tyreOf_90 : decode cX5_tyreOf 90 = .ok (.getfield 161, 3) := by decide +kernel
theorem dX5_tyreOf_93 : decode cX5_tyreOf 93 = .ok (.ireturn, 1) := by decide +kernel
theorem dX5_tyreOf_94 : decode cX5_tyreOf 94 = .ok (.aload_n 3, 1) := by decide +kernel
theorem dX5_tyreOf_95 : decode cX5_tyreOf 95 = .ok (.getfield 139, 3) := by decide +kernel
theorem dX5_tyreOf_98 : decode cX5_tyreOf 98 = .ok (.ireturn, 1) := by decide +kernel
theorem dX5_tyreOf_99 : decode cX5_tyreOf 99 = .ok (.aload_n 3, 1) := by decide +kernel
theorem dX5_tyreOf_100 : decode cX5_tyreOf 100 = .ok (.iconst 0, 1) := by decide +kernel
theorem dX5_tyreOf_101 : decode cX5_tyreOf 101 = .ok (.invokevirtual 204, 3) := by decide +kernel
theorem dX5_tyreOf_104 : decode cX5_tyreOf 104 = .ok (.ireturn, 1) := by decide +kernel
theorem dX5_tyreOf_105 : decode cX5_tyreOf 105 = .ok (.aload_n 3, 1) := by decide +kernel
theorem dX5_tyreOf_106 : decode cX5_tyreOf 106 = .ok (.getfield 216, 3) := by decide +kernel
theorem dX5_tyreOf_109 : decode cX5_tyreOf 109 = .ok (.ireturn, 1) := by decide +kernel
theorem dX5_tyreOf_110 : decode cX5_tyreOf 110 = .ok (.bipush (-20), 2) := by decide +kernel
theorem dX5_tyreOf_112 : decode cX5_tyreOf 112 = .ok (.ireturn, 1) := by decide +kernel
theorem dX5_reading_0 : decode cX5_reading 0 = .ok (.aload_n 0, 1) := by decide +kernel
theorem dX5_reading_1 : decode cX5_reading 1 = .ok (.iload_n 1, 1) := by decide +kernel
theorem dX5_reading_2 : decode cX5_reading 2 = .ok (.invokevirtual 132, 3) := by decide +kernel
theorem dX5_reading_5 : decode cX5_reading 5 = .ok (.astore 4, 2) := by decide +kernel
theorem dX5_reading_7 : decode cX5_reading 7 = .ok (.aload 4, 2) := by decide +kernel
theorem dX5_reading_9 : decode cX5_reading 9 = .ok (.ifnull 12, 3) := by decide +kernel
theorem dX5_reading_12 : decode cX5_reading 12 = .ok (.aload 4, 2) := by decide +kernel
theorem dX5_reading_14 : decode cX5_reading 14 = .ok (.iload_n 2, 1) := by decide +kernel
theorem dX5_reading_15 : decode cX5_reading 15 = .ok (.invokevirtual 249, 3) := by decide +kernel
theorem dX5_reading_18 : decode cX5_reading 18 = .ok (.ifCond .ne 6, 3) := by decide +kernel
theorem dX5_reading_21 : decode cX5_reading 21 = .ok (.bipush (-9), 2) := by decide +kernel
theorem dX5_reading_23 : decode cX5_reading 23 = .ok (.ireturn, 1) := by decide +kernel
theorem dX5_reading_24 : decode cX5_reading 24 = .ok (.iload_n 3, 1) := by decide +kernel
theorem dX5_reading_25 : decode cX5_reading 25 = .ok (.lookupswitch 47 #[(0, 27), (1, 37)], 27) := by decide +kernel
theorem dX5_reading_52 : decode cX5_reading 52 = .ok (.aload 4, 2) := by decide +kernel
theorem dX5_reading_54 : decode cX5_reading 54 = .ok (.getfield 252, 3) := by decide +kernel
theorem dX5_reading_57 : decode cX5_reading 57 = .ok (.iload_n 2, 1) := by decide +kernel
theorem dX5_reading_58 : decode cX5_reading 58 = .ok (.invokestatic 96, 3) := by decide +kernel
theorem dX5_reading_61 : decode cX5_reading 61 = .ok (.ireturn, 1) := by decide +kernel
theorem dX5_reading_62 : decode cX5_reading 62 = .ok (.aload 4, 2) := by decide +kernel
theorem dX5_reading_64 : decode cX5_reading 64 = .ok (.getfield 255, 3) := by decide +kernel
theorem dX5_reading_67 : decode cX5_reading 67 = .ok (.iload_n 2, 1) := by decide +kernel
theorem dX5_reading_68 : decode cX5_reading 68 = .ok (.invokestatic 96, 3) := by decide +kernel
theorem dX5_reading_71 : decode cX5_reading 71 = .ok (.ireturn, 1) := by decide +kernel
theorem dX5_reading_72 : decode cX5_reading 72 = .ok (.bipush (-9), 2) := by decide +kernel
theorem dX5_reading_74 : decode cX5_reading 74 = .ok (.ireturn, 1) := by decide +kernel
theorem dX5_placeOf_0 : decode cX5_placeOf 0 = .ok (.aload_n 0, 1) := by decide +kernel
theorem dX5_placeOf_1 : decode cX5_placeOf 1 = .ok (.iload_n 1, 1) := by decide +kernel
theorem dX5_placeOf_2 : decode cX5_placeOf 2 = .ok (.invokevirtual 77, 3) := by decide +kernel
theorem dX5_placeOf_5 : decode cX5_placeOf 5 = .ok (.astore 4, 2) := by decide +kernel
theorem dX5_placeOf_7 : decode cX5_placeOf 7 = .ok (.aload 4, 2) := by decide +kernel
theorem dX5_placeOf_9 : decode cX5_placeOf 9 = .ok (.ifnull 12, 3) := by decide +kernel
theorem dX5_placeOf_12 : decode cX5_placeOf 12 = .ok (.aload 4, 2) := by decide +kernel
theorem dX5_placeOf_14 : decode cX5_placeOf 14 = .ok (.iload_n 2, 1) := by decide +kernel
theorem dX5_placeOf_15 : decode cX5_placeOf 15 = .ok (.invokevirtual 136, 3) := by decide +kernel
theorem dX5_placeOf_18 : decode cX5_placeOf 18 = .ok (.ifCond .ne 6, 3) := by decide +kernel
theorem dX5_placeOf_21 : decode cX5_placeOf 21 = .ok (.bipush (-9), 2) := by decide +kernel
theorem dX5_placeOf_23 : decode cX5_placeOf 23 = .ok (.ireturn, 1) := by decide +kernel
theorem dX5_placeOf_24 : decode cX5_placeOf 24 = .ok (.iload_n 3, 1) := by decide +kernel
theorem dX5_placeOf_25 : decode cX5_placeOf 25 = .ok (.tableswitch 51 0 2 #[27, 34, 44], 27) := by decide +kernel
theorem dX5_placeOf_52 : decode cX5_placeOf 52 = .ok (.aload 4, 2) := by decide +kernel
theorem dX5_placeOf_54 : decode cX5_placeOf 54 = .ok (.iload_n 2, 1) := by decide +kernel
theorem dX5_placeOf_55 : decode cX5_placeOf 55 = .ok (.invokevirtual 258, 3) := by decide +kernel
theorem dX5_placeOf_58 : decode cX5_placeOf 58 = .ok (.ireturn, 1) := by decide +kernel
theorem dX5_placeOf_59 : decode cX5_placeOf 59 = .ok (.aload 4, 2) := by decide +kernel
theorem dX5_placeOf_61 : decode cX5_placeOf 61 = .ok (.iload_n 2, 1) := by decide +kernel
theorem dX5_placeOf_62 : decode cX5_placeOf 62 = .ok (.invokevirtual 142, 3) := by decide +kernel
theorem dX5_placeOf_65 : decode cX5_placeOf 65 = .ok (.invokestatic 261, 3) := by decide +kernel
theorem dX5_placeOf_68 : decode cX5_placeOf 68 = .ok (.ireturn, 1) := by decide +kernel
theorem dX5_placeOf_69 : decode cX5_placeOf 69 = .ok (.aload 4, 2) := by decide +kernel
theorem dX5_placeOf_71 : decode cX5_placeOf 71 = .ok (.iload_n 2, 1) := by decide +kernel
theorem dX5_placeOf_72 : decode cX5_placeOf 72 = .ok (.invokevirtual 265, 3) := by decide +kernel
theorem dX5_placeOf_75 : decode cX5_placeOf 75 = .ok (.ireturn, 1) := by decide +kernel
theorem dX5_placeOf_76 : decode cX5_placeOf 76 = .ok (.bipush (-9), 2) := by decide +kernel
theorem dX5_placeOf_78 : decode cX5_placeOf 78 = .ok (.ireturn, 1) := by decide +kernel
theorem dX5_count_0 : decode cX5_count 0 = .ok (.iload_n 1, 1) := by decide +kernel
theorem dX5_count_1 : decode cX5_count 1 = .ok (.tableswitch 115 0 7 #[47, 52, 57, 62, 68, 93, 100, 107], 47) := by decide +kernel
theorem dX5_count_48 : decode cX5_count 48 = .ok (.aload_n 0, 1) := by decide +kernel
theorem dX5_count_49 : decode cX5_count 49 = .ok (.getfield 116, 3) := by decide +kernel
theorem dX5_count_52 : decode cX5_count 52 = .ok (.ireturn, 1) := by decide +kernel
theorem dX5_count_53 : decode cX5_count 53 = .ok (.aload_n 0, 1) := by decide +kernel
theorem dX5_count_54 : decode cX5_count 54 = .ok (.getfield 67, 3) := by decide +kernel
theorem dX5_count_57 : decode cX5_count 57 = .ok (.ireturn, 1) := by decide +kernel
theorem dX5_count_58 : decode cX5_count 58 = .ok (.aload_n 0, 1) := by decide +kernel
theorem dX5_count_59 : decode cX5_count 59 = .ok (.getfield 110, 3) := by decide +kernel
theorem dX5_count_62 : decode cX5_count 62 = .ok (.ireturn, 1) := by decide +kernel
theorem dX5_count_63 : decode cX5_count 63 = .ok (.aload_n 0, 1) := by decide +kernel
theorem dX5_count_64 : decode cX5_count 64 = .ok (.iconst (-1), 1) := by decide +kernel
theorem dX5_count_65 : decode cX5_count 65 = .ok (.invokevirtual 268, 3) := by decide +kernel
theorem dX5_count_68 : decode cX5_count 68 = .ok (.ireturn, 1) := by decide +kernel
theorem dX5_count_69 : decode cX5_count 69 = .ok (.aload_n 0, 1) := by decide +kernel
theorem dX5_count_70 : decode cX5_count 70 = .ok (.getfield 110, 3) := by decide +kernel
theorem dX5_count_73 : decode cX5_count 73 = .ok (.aload_n 0, 1) := by decide +kernel
theorem dX5_count_74 : decode cX5_count 74 = .ok (.iconst (-1), 1) := by decide +kernel
theorem dX5_count_75 : decode cX5_count 75 = .ok (.invokevirtual 268, 3) := by decide +kernel
theorem dX5_count_78 : decode cX5_count 78 = .ok (.isub, 1) := by decide +kernel
theorem dX5_count_79 : decode cX5_count 79 = .ok (.aload_n 0, 1) := by decide +kernel
theorem dX5_count_80 : decode cX5_count 80 = .ok (.bipush (-2), 2) := by decide +kernel
theorem dX5_count_82 : decode cX5_count 82 = .ok (.invokevirtual 268, 3) := by decide +kernel
theorem dX5_count_85 : decode cX5_count 85 = .ok (.isub, 1) := by decide +kernel
theorem dX5_count_86 : decode cX5_count 86 = .ok (.aload_n 0, 1) := by decide +kernel
theorem dX5_count_87 : decode cX5_count 87 = .ok (.bipush (-3), 2) := by decide +kernel
theorem dX5_count_89 : decode cX5_count 89 = .ok (.invokevirtual 268, 3) := by decide +kernel
theorem dX5_count_92 : decode cX5_count 92 = .ok (.isub, 1) := by decide +kernel
theorem dX5_count_93 : decode cX5_count 93 = .ok (.ireturn, 1) := by decide +kernel
theorem dX5_count_94 : decode cX5_count 94 = .ok (.aload_n 0, 1) := by decide +kernel
theorem dX5_count_95 : decode cX5_count 95 = .ok (.bipush (-2), 2) := by decide +kernel
theorem dX5_count_97 : decode cX5_count 97 = .ok (.invokevirtual 268, 3) := by decide +kernel
theorem dX5_count_100 : decode cX5_count 100 = .ok (.ireturn, 1) := by decide +kernel
theorem dX5_count_101 : decode cX5_count 101 = .ok (.aload_n 0, 1) := by decide +kernel
theorem dX5_count_102 : decode cX5_count 102 = .ok (.bipush (-3), 2) := by decide +kernel
theorem dX5_count_104 : decode cX5_count 104 = .ok (.invokevirtual 268, 3) := by decide +kernel
theorem dX5_count_107 : decode cX5_count 107 = .ok (.ireturn, 1) := by decide +kernel
theorem dX5_count_108 : decode cX5_count 108 = .ok (.aload_n 0, 1) := by decide +kernel
theorem dX5_count_109 : decode cX5_count 109 = .ok (.getfield 45, 3) := by decide +kernel
theorem dX5_count_112 : decode cX5_count 112 = .ok (.getfield 271, 3) := by decide +kernel
theorem dX5_count_115 : decode cX5_count 115 = .ok (.ireturn, 1) := by decide +kernel
theorem dX5_count_116 : decode cX5_count 116 = .ok (.iload_n 1, 1) := by decide +kernel
theorem dX5_count_117 : decode cX5_count 117 = .ok (.bipush 11, 2) := by decide +kernel
theorem dX5_count_119 : decode cX5_count 119 = .ok (.if_icmp .lt 23, 3) := by decide +kernel
theorem dX5_count_122 : decode cX5_count 122 = .ok (.iload_n 1, 1) := by decide +kernel
theorem dX5_count_123 : decode cX5_count 123 = .ok (.bipush 16, 2) := by decide +kernel
theorem dX5_count_125 : decode cX5_count 125 = .ok (.if_icmp .gt 17, 3) := by decide +kernel
theorem dX5_count_128 : decode cX5_count 128 = .ok (.aload_n 0, 1) := by decide +kernel
theorem dX5_count_129 : decode cX5_count 129 = .ok (.getfield 39, 3) := by decide +kernel
theorem dX5_count_132 : decode cX5_count 132 = .ok (.iload_n 1, 1) := by decide +kernel
theorem dX5_count_133 : decode cX5_count 133 = .ok (.bipush 10, 2) := by decide +kernel
theorem dX5_count_135 : decode cX5_count 135 = .ok (.isub, 1) := by decide +kernel
theorem dX5_count_136 : decode cX5_count 136 = .ok (.invokestatic 96, 3) := by decide +kernel
theorem dX5_count_139 : decode cX5_count 139 = .ok (.goto 5, 3) := by decide +kernel
theorem dX5_count_142 : decode cX5_count 142 = .ok (.bipush (-9), 2) := by decide +kernel
theorem dX5_count_144 : decode cX5_count 144 = .ok (.ireturn, 1) := by decide +kernel
theorem dX5_refuse_0 : decode cX5_refuse 0 = .ok (.aload_n 0, 1) := by decide +kernel
theorem dX5_refuse_1 : decode cX5_refuse 1 = .ok (.getfield 39, 3) := by decide +kernel
theorem dX5_refuse_4 : decode cX5_refuse 4 = .ok (.iload_n 1, 1) := by decide +kernel
theorem dX5_refuse_5 : decode cX5_refuse 5 = .ok (.ineg, 1) := by decide +kernel
theorem dX5_refuse_6 : decode cX5_refuse 6 = .ok (.aload_n 0, 1) := by decide +kernel
theorem dX5_refuse_7 : decode cX5_refuse 7 = .ok (.getfield 39, 3) := by decide +kernel
theorem dX5_refuse_10 : decode cX5_refuse 10 = .ok (.iload_n 1, 1) := by decide +kernel
theorem dX5_refuse_11 : decode cX5_refuse 11 = .ok (.ineg, 1) := by decide +kernel
theorem dX5_refuse_12 : decode cX5_refuse 12 = .ok (.invokestatic 96, 3) := by decide +kernel
theorem dX5_refuse_15 : decode cX5_refuse 15 = .ok (.iconst 1, 1) := by decide +kernel
theorem dX5_refuse_16 : decode cX5_refuse 16 = .ok (.iadd, 1) := by decide +kernel
theorem dX5_refuse_17 : decode cX5_refuse 17 = .ok (.invokestatic 100, 3) := by decide +kernel
theorem dX5_refuse_20 : decode cX5_refuse 20 = .ok (.iload_n 1, 1) := by decide +kernel
theorem dX5_refuse_21 : decode cX5_refuse 21 = .ok (.ireturn, 1) := by decide +kernel
theorem dX5_outside_0 : decode cX5_outside 0 = .ok (.iload_n 0, 1) := by decide +kernel
theorem dX5_outside_1 : decode cX5_outside 1 = .ok (.iload_n 1, 1) := by decide +kernel
theorem dX5_outside_2 : decode cX5_outside 2 = .ok (.if_icmp .ge 8, 3) := by decide +kernel
theorem dX5_outside_5 : decode cX5_outside 5 = .ok (.bipush (-4), 2) := by decide +kernel
theorem dX5_outside_7 : decode cX5_outside 7 = .ok (.goto 14, 3) := by decide +kernel
theorem dX5_outside_10 : decode cX5_outside 10 = .ok (.iload_n 0, 1) := by decide +kernel
theorem dX5_outside_11 : decode cX5_outside 11 = .ok (.iload_n 2, 1) := by decide +kernel
theorem dX5_outside_12 : decode cX5_outside 12 = .ok (.if_icmp .le 8, 3) := by decide +kernel
theorem dX5_outside_15 : decode cX5_outside 15 = .ok (.bipush (-6), 2) := by decide +kernel
theorem dX5_outside_17 : decode cX5_outside 17 = .ok (.goto 4, 3) := by decide +kernel
theorem dX5_outside_20 : decode cX5_outside 20 = .ok (.iconst 0, 1) := by decide +kernel
theorem dX5_outside_21 : decode cX5_outside 21 = .ok (.ireturn, 1) := by decide +kernel
theorem dX5_wagonAt_0 : decode cX5_wagonAt 0 = .ok (.iload_n 1, 1) := by decide +kernel
theorem dX5_wagonAt_1 : decode cX5_wagonAt 1 = .ok (.ifCond .lt 29, 3) := by decide +kernel
theorem dX5_wagonAt_4 : decode cX5_wagonAt 4 = .ok (.iload_n 1, 1) := by decide +kernel
theorem dX5_wagonAt_5 : decode cX5_wagonAt 5 = .ok (.aload_n 0, 1) := by decide +kernel
theorem dX5_wagonAt_6 : decode cX5_wagonAt 6 = .ok (.getfield 67, 3) := by decide +kernel
theorem dX5_wagonAt_9 : decode cX5_wagonAt 9 = .ok (.if_icmp .ge 21, 3) := by decide +kernel
theorem dX5_wagonAt_12 : decode cX5_wagonAt 12 = .ok (.iload_n 1, 1) := by decide +kernel
theorem dX5_wagonAt_13 : decode cX5_wagonAt 13 = .ok (.aload_n 0, 1) := by decide +kernel
theorem dX5_wagonAt_14 : decode cX5_wagonAt 14 = .ok (.getfield 11, 3) := by decide +kernel
theorem dX5_wagonAt_17 : decode cX5_wagonAt 17 = .ok (.arraylength, 1) := by decide +kernel
theorem dX5_wagonAt_18 : decode cX5_wagonAt 18 = .ok (.if_icmp .ge 12, 3) := by decide +kernel
theorem dX5_wagonAt_21 : decode cX5_wagonAt 21 = .ok (.aload_n 0, 1) := by decide +kernel
theorem dX5_wagonAt_22 : decode cX5_wagonAt 22 = .ok (.getfield 11, 3) := by decide +kernel
theorem dX5_wagonAt_25 : decode cX5_wagonAt 25 = .ok (.iload_n 1, 1) := by decide +kernel
theorem dX5_wagonAt_26 : decode cX5_wagonAt 26 = .ok (.aaload, 1) := by decide +kernel
theorem dX5_wagonAt_27 : decode cX5_wagonAt 27 = .ok (.goto 4, 3) := by decide +kernel
theorem dX5_wagonAt_30 : decode cX5_wagonAt 30 = .ok (.aconst_null, 1) := by decide +kernel
theorem dX5_wagonAt_31 : decode cX5_wagonAt 31 = .ok (.areturn, 1) := by decide +kernel
theorem dX5_tyreAt_0 : decode cX5_tyreAt 0 = .ok (.iload_n 1, 1) := by decide +kernel
theorem dX5_tyreAt_1 : decode cX5_tyreAt 1 = .ok (.ifCond .lt 29, 3) := by decide +kernel
theorem dX5_tyreAt_4 : decode cX5_tyreAt 4 = .ok (.iload_n 1, 1) := by decide +kernel
theorem dX5_tyreAt_5 : decode cX5_tyreAt 5 = .ok (.aload_n 0, 1) := by decide +kernel
theorem dX5_tyreAt_6 : decode cX5_tyreAt 6 = .ok (.getfield 110, 3) := by decide +kernel
theorem dX5_tyreAt_9 : decode cX5_tyreAt 9 = .ok (.if_icmp .ge 21, 3) := by decide +kernel
theorem dX5_tyreAt_12 : decode cX5_tyreAt 12 = .ok (.iload_n 1, 1) := by decide +kernel
theorem dX5_tyreAt_13 : decode cX5_tyreAt 13 = .ok (.aload_n 0, 1) := by decide +kernel
theorem dX5_tyreAt_14 : decode cX5_tyreAt 14 = .ok (.getfield 17, 3) := by decide +kernel
theorem dX5_tyreAt_17 : decode cX5_tyreAt 17 = .ok (.arraylength, 1) := by decide +kernel
theorem dX5_tyreAt_18 : decode cX5_tyreAt 18 = .ok (.if_icmp .ge 12, 3) := by decide +kernel
theorem dX5_tyreAt_21 : decode cX5_tyreAt 21 = .ok (.aload_n 0, 1) := by decide +kernel
theorem dX5_tyreAt_22 : decode cX5_tyreAt 22 = .ok (.getfield 17, 3) := by decide +kernel
theorem dX5_tyreAt_25 : decode cX5_tyreAt 25 = .ok (.iload_n 1, 1) := by decide +kernel
theorem dX5_tyreAt_26 : decode cX5_tyreAt 26 = .ok (.aaload, 1) := by decide +kernel
theorem dX5_tyreAt_27 : decode cX5_tyreAt 27 = .ok (.goto 4, 3) := by decide +kernel
theorem dX5_tyreAt_30 : decode cX5_tyreAt 30 = .ok (.aconst_null, 1) := by decide +kernel
theorem dX5_tyreAt_31 : decode cX5_tyreAt 31 = .ok (.areturn, 1) := by decide +kernel
theorem dX5_isKind_0 : decode cX5_isKind 0 = .ok (.iload_n 0, 1) := by decide +kernel
theorem dX5_isKind_1 : decode cX5_isKind 1 = .ok (.ifCond .lt 12, 3) := by decide +kernel
theorem dX5_isKind_4 : decode cX5_isKind 4 = .ok (.iload_n 0, 1) := by decide +kernel
theorem dX5_isKind_5 : decode cX5_isKind 5 = .ok (.iconst 4, 1) := by decide +kernel
theorem dX5_isKind_6 : decode cX5_isKind 6 = .ok (.if_icmp .gt 7, 3) := by decide +kernel
theorem dX5_isKind_9 : decode cX5_isKind 9 = .ok (.iconst 1, 1) := by decide +kernel
theorem dX5_isKind_10 : decode cX5_isKind 10 = .ok (.goto 4, 3) := by decide +kernel
theorem dX5_isKind_13 : decode cX5_isKind 13 = .ok (.iconst 0, 1) := by decide +kernel
theorem dX5_isKind_14 : decode cX5_isKind 14 = .ok (.ireturn, 1) := by decide +kernel
theorem dX5_isMaker_0 : decode cX5_isMaker 0 = .ok (.iload_n 0, 1) := by decide +kernel
theorem dX5_isMaker_1 : decode cX5_isMaker 1 = .ok (.ifCond .lt 12, 3) := by decide +kernel
theorem dX5_isMaker_4 : decode cX5_isMaker 4 = .ok (.iload_n 0, 1) := by decide +kernel
theorem dX5_isMaker_5 : decode cX5_isMaker 5 = .ok (.iconst 4, 1) := by decide +kernel
theorem dX5_isMaker_6 : decode cX5_isMaker 6 = .ok (.if_icmp .ge 7, 3) := by decide +kernel
theorem dX5_isMaker_9 : decode cX5_isMaker 9 = .ok (.iconst 1, 1) := by decide +kernel
theorem dX5_isMaker_10 : decode cX5_isMaker 10 = .ok (.goto 4, 3) := by decide +kernel
theorem dX5_isMaker_13 : decode cX5_isMaker 13 = .ok (.iconst 0, 1) := by decide +kernel
theorem dX5_isMaker_14 : decode cX5_isMaker 14 = .ok (.ireturn, 1) := by decide +kernel
theorem dX5_numberOf_0 : decode cX5_numberOf 0 = .ok (.aload_n 0, 1) := by decide +kernel
theorem dX5_numberOf_1 : decode cX5_numberOf 1 = .ok (.ifnonnull 8, 3) := by decide +kernel
theorem dX5_numberOf_4 : decode cX5_numberOf 4 = .ok (.bipush (-9), 2) := by decide +kernel
theorem dX5_numberOf_6 : decode cX5_numberOf 6 = .ok (.goto 7, 3) := by decide +kernel
theorem dX5_numberOf_9 : decode cX5_numberOf 9 = .ok (.aload_n 0, 1) := by decide +kernel
theorem dX5_numberOf_10 : decode cX5_numberOf 10 = .ok (.getfield 125, 3) := by decide +kernel
theorem dX5_numberOf_13 : decode cX5_numberOf 13 = .ok (.ireturn, 1) := by decide +kernel
theorem dX5_at_0 : decode cX5_at 0 = .ok (.iload_n 1, 1) := by decide +kernel
theorem dX5_at_1 : decode cX5_at 1 = .ok (.ifCond .lt 15, 3) := by decide +kernel
theorem dX5_at_4 : decode cX5_at 4 = .ok (.iload_n 1, 1) := by decide +kernel
theorem dX5_at_5 : decode cX5_at 5 = .ok (.aload_n 0, 1) := by decide +kernel
theorem dX5_at_6 : decode cX5_at 6 = .ok (.arraylength, 1) := by decide +kernel
theorem dX5_at_7 : decode cX5_at 7 = .ok (.if_icmp .ge 9, 3) := by decide +kernel
theorem dX5_at_10 : decode cX5_at 10 = .ok (.aload_n 0, 1) := by decide +kernel
theorem dX5_at_11 : decode cX5_at 11 = .ok (.iload_n 1, 1) := by decide +kernel
theorem dX5_at_12 : decode cX5_at 12 = .ok (.iaload, 1) := by decide +kernel
theorem dX5_at_13 : decode cX5_at 13 = .ok (.goto 4, 3) := by decide +kernel
theorem dX5_at_16 : decode cX5_at 16 = .ok (.iconst 0, 1) := by decide +kernel
theorem dX5_at_17 : decode cX5_at 17 = .ok (.ireturn, 1) := by decide +kernel
theorem dX5_write_0 : decode cX5_write 0 = .ok (.iload_n 1, 1) := by decide +kernel
theorem dX5_write_1 : decode cX5_write 1 = .ok (.ifCond .lt 13, 3) := by decide +kernel
theorem dX5_write_4 : decode cX5_write 4 = .ok (.iload_n 1, 1) := by decide +kernel
theorem dX5_write_5 : decode cX5_write 5 = .ok (.aload_n 0, 1) := by decide +kernel
theorem dX5_write_6 : decode cX5_write 6 = .ok (.arraylength, 1) := by decide +kernel
theorem dX5_write_7 : decode cX5_write 7 = .ok (.if_icmp .ge 7, 3) := by decide +kernel
theorem dX5_write_10 : decode cX5_write 10 = .ok (.aload_n 0, 1) := by decide +kernel
theorem dX5_write_11 : decode cX5_write 11 = .ok (.iload_n 1, 1) := by decide +kernel
theorem dX5_write_12 : decode cX5_write 12 = .ok (.iload_n 2, 1) := by decide +kernel
theorem dX5_write_13 : decode cX5_write 13 = .ok (.iastore, 1) := by decide +kernel
theorem dX5_write_14 : decode cX5_write 14 = .ok (.return_, 1) := by decide +kernel
theorem dX5_move_0 : decode cX5_move 0 = .ok (.aload_n 1, 1) := by decide +kernel
theorem dX5_move_1 : decode cX5_move 1 = .ok (.ifnull 24, 3) := by decide +kernel
theorem dX5_move_4 : decode cX5_move 4 = .ok (.aload_n 1, 1) := by decide +kernel
theorem dX5_move_5 : decode cX5_move 5 = .ok (.iload_n 2, 1) := by decide +kernel
theorem dX5_move_6 : decode cX5_move 6 = .ok (.putfield 139, 3) := by decide +kernel
theorem dX5_move_9 : decode cX5_move 9 = .ok (.aload_n 0, 1) := by decide +kernel
theorem dX5_move_10 : decode cX5_move 10 = .ok (.getfield 45, 3) := by decide +kernel
theorem dX5_move_13 : decode cX5_move 13 = .ok (.aload_n 0, 1) := by decide +kernel
theorem dX5_move_14 : decode cX5_move 14 = .ok (.getfield 116, 3) := by decide +kernel
theorem dX5_move_17 : decode cX5_move 17 = .ok (.aload_n 1, 1) := by decide +kernel
theorem dX5_move_18 : decode cX5_move 18 = .ok (.getfield 125, 3) := by decide +kernel
theorem dX5_move_21 : decode cX5_move 21 = .ok (.iload_n 2, 1) := by decide +kernel
theorem dX5_move_22 : decode cX5_move 22 = .ok (.invokevirtual 274, 3) := by decide +kernel
theorem dX5_move_25 : decode cX5_move 25 = .ok (.return_, 1) := by decide +kernel
theorem dX5_layAsChosen_0 : decode cX5_layAsChosen 0 = .ok (.iconst 0, 1) := by decide +kernel
theorem dX5_layAsChosen_1 : decode cX5_layAsChosen 1 = .ok (.istore_n 2, 1) := by decide +kernel
theorem dX5_layAsChosen_2 : decode cX5_layAsChosen 2 = .ok (.iload_n 2, 1) := by decide +kernel
theorem dX5_layAsChosen_3 : decode cX5_layAsChosen 3 = .ok (.aload_n 1, 1) := by decide +kernel
theorem dX5_layAsChosen_4 : decode cX5_layAsChosen 4 = .ok (.getfield 232, 3) := by decide +kernel
theorem dX5_layAsChosen_7 : decode cX5_layAsChosen 7 = .ok (.if_icmp .ge 43, 3) := by decide +kernel
theorem dX5_layAsChosen_10 : decode cX5_layAsChosen 10 = .ok (.aload_n 0, 1) := by decide +kernel
theorem dX5_layAsChosen_11 : decode cX5_layAsChosen 11 = .ok (.getfield 52, 3) := by decide +kernel
theorem dX5_layAsChosen_14 : decode cX5_layAsChosen 14 = .ok (.iload_n 2, 1) := by decide +kernel
theorem dX5_layAsChosen_15 : decode cX5_layAsChosen 15 = .ok (.invokevirtual 277, 3) := by decide +kernel
theorem dX5_layAsChosen_18 : decode cX5_layAsChosen 18 = .ok (.astore_n 3, 1) := by decide +kernel
theorem dX5_layAsChosen_19 : decode cX5_layAsChosen 19 = .ok (.aload_n 3, 1) := by decide +kernel
theorem dX5_layAsChosen_20 : decode cX5_layAsChosen 20 = .ok (.aload_n 1, 1) := by decide +kernel
theorem dX5_layAsChosen_21 : decode cX5_layAsChosen 21 = .ok (.iload_n 2, 1) := by decide +kernel
theorem dX5_layAsChosen_22 : decode cX5_layAsChosen 22 = .ok (.invokevirtual 142, 3) := by decide +kernel
theorem dX5_layAsChosen_25 : decode cX5_layAsChosen 25 = .ok (.if_acmp .eq 19, 3) := by decide +kernel
theorem dX5_layAsChosen_28 : decode cX5_layAsChosen 28 = .ok (.aload_n 1, 1) := by decide +kernel
theorem dX5_layAsChosen_29 : decode cX5_layAsChosen 29 = .ok (.iload_n 2, 1) := by decide +kernel
theorem dX5_layAsChosen_30 : decode cX5_layAsChosen 30 = .ok (.aload_n 3, 1) := by decide +kernel
theorem dX5_layAsChosen_31 : decode cX5_layAsChosen 31 = .ok (.invokevirtual 145, 3) := by decide +kernel
theorem dX5_layAsChosen_34 : decode cX5_layAsChosen 34 = .ok (.aload_n 0, 1) := by decide +kernel
theorem dX5_layAsChosen_35 : decode cX5_layAsChosen 35 = .ok (.aload_n 3, 1) := by decide +kernel
theorem dX5_layAsChosen_36 : decode cX5_layAsChosen 36 = .ok (.aload_n 1, 1) := by decide +kernel
theorem dX5_layAsChosen_37 : decode cX5_layAsChosen 37 = .ok (.iload_n 2, 1) := by decide +kernel
theorem dX5_layAsChosen_38 : decode cX5_layAsChosen 38 = .ok (.invokevirtual 149, 3) := by decide +kernel
theorem dX5_layAsChosen_41 : decode cX5_layAsChosen 41 = .ok (.invokevirtual 128, 3) := by decide +kernel
theorem dX5_layAsChosen_44 : decode cX5_layAsChosen 44 = .ok (.iinc 2 1, 3) := by decide +kernel
theorem dX5_layAsChosen_47 : decode cX5_layAsChosen 47 = .ok (.goto (-45), 3) := by decide +kernel
theorem dX5_layAsChosen_50 : decode cX5_layAsChosen 50 = .ok (.return_, 1) := by decide +kernel
theorem dX5_refitTyresOf_0 : decode cX5_refitTyresOf 0 = .ok (.iconst 0, 1) := by decide +kernel
theorem dX5_refitTyresOf_1 : decode cX5_refitTyresOf 1 = .ok (.istore_n 2, 1) := by decide +kernel
theorem dX5_refitTyresOf_2 : decode cX5_refitTyresOf 2 = .ok (.iload_n 2, 1) := by decide +kernel
theorem dX5_refitTyresOf_3 : decode cX5_refitTyresOf 3 = .ok (.bipush 40, 2) := by decide +kernel
theorem dX5_refitTyresOf_5 : decode cX5_refitTyresOf 5 = .ok (.if_icmp .ge 39, 3) := by decide +kernel
theorem dX5_refitTyresOf_8 : decode cX5_refitTyresOf 8 = .ok (.aload_n 0, 1) := by decide +kernel
theorem dX5_refitTyresOf_9 : decode cX5_refitTyresOf 9 = .ok (.iload_n 2, 1) := by decide +kernel
theorem dX5_refitTyresOf_10 : decode cX5_refitTyresOf 10 = .ok (.invokevirtual 132, 3) := by decide +kernel
theorem dX5_refitTyresOf_13 : decode cX5_refitTyresOf 13 = .ok (.astore_n 3, 1) := by decide +kernel
theorem dX5_refitTyresOf_14 : decode cX5_refitTyresOf 14 = .ok (.aload_n 3, 1) := by decide +kernel
theorem dX5_refitTyresOf_15 : decode cX5_refitTyresOf 15 = .ok (.ifnull 23, 3) := by decide +kernel
theorem dX5_refitTyresOf_18 : decode cX5_refitTyresOf 18 = .ok (.aload_n 3, 1) := by decide +kernel
theorem dX5_refitTyresOf_19 : decode cX5_refitTyresOf 19 = .ok (.getfield 155, 3) := by decide +kernel
theorem dX5_refitTyresOf_22 : decode cX5_refitTyresOf 22 = .ok (.iload_n 1, 1) := by decide +kernel
theorem dX5_refitTyresOf_23 : decode cX5_refitTyresOf 23 = .ok (.if_icmp .ne 15, 3) := by decide +kernel
theorem dX5_refitTyresOf_26 : decode cX5_refitTyresOf 26 = .ok (.aload_n 3, 1) := by decide +kernel
theorem dX5_refitTyresOf_27 : decode cX5_refitTyresOf 27 = .ok (.aload_n 0, 1) := by decide +kernel
theorem dX5_refitTyresOf_28 : decode cX5_refitTyresOf 28 = .ok (.getfield 36, 3) := by decide +kernel
theorem dX5_refitTyresOf_31 : decode cX5_refitTyresOf 31 = .ok (.iload_n 1, 1) := by decide +kernel
theorem dX5_refitTyresOf_32 : decode cX5_refitTyresOf 32 = .ok (.invokestatic 96, 3) := by decide +kernel
theorem dX5_refitTyresOf_35 : decode cX5_refitTyresOf 35 = .ok (.invokevirtual 158, 3) := by decide +kernel
theorem dX5_refitTyresOf_38 : decode cX5_refitTyresOf 38 = .ok (.iinc 2 1, 3) := by decide +kernel
theorem dX5_refitTyresOf_41 : decode cX5_refitTyresOf 41 = .ok (.goto (-39), 3) := by decide +kernel
theorem dX5_refitTyresOf_44 : decode cX5_refitTyresOf 44 = .ok (.return_, 1) := by decide +kernel
theorem dX5_nextBack_0 : decode cX5_nextBack 0 = .ok (.aconst_null, 1) := by decide +kernel
theorem dX5_nextBack_1 : decode cX5_nextBack 1 = .ok (.astore_n 2, 1) := by decide +kernel
theorem dX5_nextBack_2 : decode cX5_nextBack 2 = .ok (.iconst 0, 1) := by decide +kernel
theorem dX5_nextBack_3 : decode cX5_nextBack 3 = .ok (.istore_n 3, 1) := by decide +kernel
theorem dX5_nextBack_4 : decode cX5_nextBack 4 = .ok (.iload_n 3, 1) := by decide +kernel
theorem dX5_nextBack_5 : decode cX5_nextBack 5 = .ok (.bipush 40, 2) := by decide +kernel
theorem dX5_nextBack_7 : decode cX5_nextBack 7 = .ok (.if_icmp .ge 59, 3) := by decide +kernel
theorem dX5_nextBack_10 : decode cX5_nextBack 10 = .ok (.aload_n 0, 1) := by decide +kernel
theorem dX5_nextBack_11 : decode cX5_nextBack 11 = .ok (.iload_n 3, 1) := by decide +kernel
theorem dX5_nextBack_12 : decode cX5_nextBack 12 = .ok (.invokevirtual 132, 3) := by decide +kernel
theorem dX5_nextBack_15 : decode cX5_nextBack 15 = .ok (.astore 4, 2) := by decide +kernel
theorem dX5_nextBack_17 : decode cX5_nextBack 17 = .ok (.aload 4, 2) := by decide +kernel
theorem dX5_nextBack_19 : decode cX5_nextBack 19 = .ok (.ifnull 41, 3) := by decide +kernel
theorem dX5_nextBack_22 : decode cX5_nextBack 22 = .ok (.aload 4, 2) := by decide +kernel
theorem dX5_nextBack_24 : decode cX5_nextBack 24 = .ok (.getfield 139, 3) := by decide +kernel
theorem dX5_nextBack_27 : decode cX5_nextBack 27 = .ok (.bipush (-2), 2) := by decide +kernel
theorem dX5_nextBack_29 : decode cX5_nextBack 29 = .ok (.if_icmp .ne 31, 3) := by decide +kernel
theorem dX5_nextBack_32 : decode cX5_nextBack 32 = .ok (.aload 4, 2) := by decide +kernel
theorem dX5_nextBack_34 : decode cX5_nextBack 34 = .ok (.getfield 216, 3) := by decide +kernel
theorem dX5_nextBack_37 : decode cX5_nextBack 37 = .ok (.iload_n 1, 1) := by decide +kernel
theorem dX5_nextBack_38 : decode cX5_nextBack 38 = .ok (.if_icmp .gt 22, 3) := by decide +kernel
theorem dX5_nextBack_41 : decode cX5_nextBack 41 = .ok (.aload_n 2, 1) := by decide +kernel
theorem dX5_nextBack_42 : decode cX5_nextBack 42 = .ok (.ifnull 15, 3) := by decide +kernel
theorem dX5_nextBack_45 : decode cX5_nextBack 45 = .ok (.aload 4, 2) := by decide +kernel
theorem dX5_nextBack_47 : decode cX5_nextBack 47 = .ok (.getfield 216, 3) := by decide +kernel
theorem dX5_nextBack_50 : decode cX5_nextBack 50 = .ok (.aload_n 2, 1) := by decide +kernel
theorem dX5_nextBack_51 : decode cX5_nextBack 51 = .ok (.getfield 216, 3) := by decide +kernel
theorem dX5_nextBack_54 : decode cX5_nextBack 54 = .ok (.if_icmp .ge 6, 3) := by decide +kernel
theorem dX5_nextBack_57 : decode cX5_nextBack 57 = .ok (.aload 4, 2) := by decide +kernel
theorem dX5_nextBack_59 : decode cX5_nextBack 59 = .ok (.astore_n 2, 1) := by decide +kernel
theorem dX5_nextBack_60 : decode cX5_nextBack 60 = .ok (.iinc 3 1, 3) := by decide +kernel
theorem dX5_nextBack_63 : decode cX5_nextBack 63 = .ok (.goto (-59), 3) := by decide +kernel
theorem dX5_nextBack_66 : decode cX5_nextBack 66 = .ok (.aload_n 2, 1) := by decide +kernel
theorem dX5_nextBack_67 : decode cX5_nextBack 67 = .ok (.areturn, 1) := by decide +kernel
theorem dX5_bringBack_0 : decode cX5_bringBack 0 = .ok (.aload_n 1, 1) := by decide +kernel
theorem dX5_bringBack_1 : decode cX5_bringBack 1 = .ok (.dup, 1) := by decide +kernel
theorem dX5_bringBack_2 : decode cX5_bringBack 2 = .ok (.getfield 210, 3) := by decide +kernel
theorem dX5_bringBack_5 : decode cX5_bringBack 5 = .ok (.iconst 1, 1) := by decide +kernel
theorem dX5_bringBack_6 : decode cX5_bringBack 6 = .ok (.iadd, 1) := by decide +kernel
theorem dX5_bringBack_7 : decode cX5_bringBack 7 = .ok (.putfield 210, 3) := by decide +kernel
theorem dX5_bringBack_10 : decode cX5_bringBack 10 = .ok (.aload_n 1, 1) := by decide +kernel
theorem dX5_bringBack_11 : decode cX5_bringBack 11 = .ok (.bipush (-9), 2) := by decide +kernel
theorem dX5_bringBack_13 : decode cX5_bringBack 13 = .ok (.putfield 216, 3) := by decide +kernel
theorem dX5_bringBack_16 : decode cX5_bringBack 16 = .ok (.aload_n 1, 1) := by decide +kernel
theorem dX5_bringBack_17 : decode cX5_bringBack 17 = .ok (.aload_n 0, 1) := by decide +kernel
theorem dX5_bringBack_18 : decode cX5_bringBack 18 = .ok (.getfield 36, 3) := by decide +kernel
theorem dX5_bringBack_21 : decode cX5_bringBack 21 = .ok (.aload_n 1, 1) := by decide +kernel
theorem dX5_bringBack_22 : decode cX5_bringBack 22 = .ok (.getfield 155, 3) := by decide +kernel
theorem dX5_bringBack_25 : decode cX5_bringBack 25 = .ok (.invokestatic 96, 3) := by decide +kernel
theorem dX5_bringBack_28 : decode cX5_bringBack 28 = .ok (.invokevirtual 122, 3) := by decide +kernel
theorem dX5_bringBack_31 : decode cX5_bringBack 31 = .ok (.aload_n 0, 1) := by decide +kernel
theorem dX5_bringBack_32 : decode cX5_bringBack 32 = .ok (.aload_n 1, 1) := by decide +kernel
theorem dX5_bringBack_33 : decode cX5_bringBack 33 = .ok (.iconst (-1), 1) := by decide +kernel
theorem dX5_bringBack_34 : decode cX5_bringBack 34 = .ok (.invokevirtual 128, 3) := by decide +kernel
theorem dX5_bringBack_37 : decode cX5_bringBack 37 = .ok (.return_, 1) := by decide +kernel
theorem dX5_neededOn_0 : decode cX5_neededOn 0 = .ok (.aload_n 1, 1) := by decide +kernel
theorem dX5_neededOn_1 : decode cX5_neededOn 1 = .ok (.iload_n 2, 1) := by decide +kernel
theorem dX5_neededOn_2 : decode cX5_neededOn 2 = .ok (.invokevirtual 258, 3) := by decide +kernel
theorem dX5_neededOn_5 : decode cX5_neededOn 5 = .ok (.istore 4, 2) := by decide +kernel
theorem dX5_neededOn_7 : decode cX5_neededOn 7 = .ok (.iload 4, 2) := by decide +kernel
theorem dX5_neededOn_9 : decode cX5_neededOn 9 = .ok (.iconst 4, 1) := by decide +kernel
theorem dX5_neededOn_10 : decode cX5_neededOn 10 = .ok (.if_icmp .ne 5, 3) := by decide +kernel
theorem dX5_neededOn_13 : decode cX5_neededOn 13 = .ok (.iconst 0, 1) := by decide +kernel
theorem dX5_neededOn_14 : decode cX5_neededOn 14 = .ok (.ireturn, 1) := by decide +kernel
theorem dX5_neededOn_15 : decode cX5_neededOn 15 = .ok (.aload_n 0, 1) := by decide +kernel
theorem dX5_neededOn_16 : decode cX5_neededOn 16 = .ok (.getfield 30, 3) := by decide +kernel
theorem dX5_neededOn_19 : decode cX5_neededOn 19 = .ok (.iload 4, 2) := by decide +kernel
theorem dX5_neededOn_21 : decode cX5_neededOn 21 = .ok (.invokestatic 96, 3) := by decide +kernel
theorem dX5_neededOn_24 : decode cX5_neededOn 24 = .ok (.istore 5, 2) := by decide +kernel
theorem dX5_neededOn_26 : decode cX5_neededOn 26 = .ok (.aload_n 0, 1) := by decide +kernel
theorem dX5_neededOn_27 : decode cX5_neededOn 27 = .ok (.getfield 59, 3) := by decide +kernel
theorem dX5_neededOn_30 : decode cX5_neededOn 30 = .ok (.sipush 180, 3) := by decide +kernel
theorem dX5_neededOn_33 : decode cX5_neededOn 33 = .ok (.iconst 0, 1) := by decide +kernel
theorem dX5_neededOn_34 : decode cX5_neededOn 34 = .ok (.iload 5, 2) := by decide +kernel
theorem dX5_neededOn_36 : decode cX5_neededOn 36 = .ok (.invokevirtual 280, 3) := by decide +kernel
theorem dX5_neededOn_39 : decode cX5_neededOn 39 = .ok (.istore 6, 2) := by decide +kernel
theorem dX5_neededOn_41 : decode cX5_neededOn 41 = .ok (.aload_n 1, 1) := by decide +kernel
theorem dX5_neededOn_42 : decode cX5_neededOn 42 = .ok (.iload_n 2, 1) := by decide +kernel
theorem dX5_neededOn_43 : decode cX5_neededOn 43 = .ok (.invokevirtual 142, 3) := by decide +kernel
theorem dX5_neededOn_46 : decode cX5_neededOn 46 = .ok (.astore 7, 2) := by decide +kernel
theorem dX5_neededOn_48 : decode cX5_neededOn 48 = .ok (.aload 7, 2) := by decide +kernel
theorem dX5_neededOn_50 : decode cX5_neededOn 50 = .ok (.ifnonnull 14, 3) := by decide +kernel
theorem dX5_neededOn_53 : decode cX5_neededOn 53 = .ok (.iconst 1, 1) := by decide +kernel
theorem dX5_neededOn_54 : decode cX5_neededOn 54 = .ok (.iload_n 3, 1) := by decide +kernel
theorem dX5_neededOn_55 : decode cX5_neededOn 55 = .ok (.iload 6, 2) := by decide +kernel
theorem dX5_neededOn_57 : decode cX5_neededOn 57 = .ok (.invokestatic 283, 3) := by decide +kernel
theorem dX5_neededOn_60 : decode cX5_neededOn 60 = .ok (.invokestatic 286, 3) := by decide +kernel
theorem dX5_neededOn_63 : decode cX5_neededOn 63 = .ok (.ireturn, 1) := by decide +kernel
theorem dX5_neededOn_64 : decode cX5_neededOn 64 = .ok (.iload_n 3, 1) := by decide +kernel
theorem dX5_neededOn_65 : decode cX5_neededOn 65 = .ok (.aload 7, 2) := by decide +kernel
theorem dX5_neededOn_67 : decode cX5_neededOn 67 = .ok (.iload 5, 2) := by decide +kernel
theorem dX5_neededOn_69 : decode cX5_neededOn 69 = .ok (.invokevirtual 207, 3) := by decide +kernel
theorem dX5_neededOn_72 : decode cX5_neededOn 72 = .ok (.isub, 1) := by decide +kernel
theorem dX5_neededOn_73 : decode cX5_neededOn 73 = .ok (.iload 6, 2) := by decide +kernel
theorem dX5_neededOn_75 : decode cX5_neededOn 75 = .ok (.invokestatic 283, 3) := by decide +kernel
theorem dX5_neededOn_78 : decode cX5_neededOn 78 = .ok (.ireturn, 1) := by decide +kernel
theorem dX5_tyresFor_0 : decode cX5_tyresFor 0 = .ok (.iload_n 0, 1) := by decide +kernel
theorem dX5_tyresFor_1 : decode cX5_tyresFor 1 = .ok (.ifCond .le 7, 3) := by decide +kernel
theorem dX5_tyresFor_4 : decode cX5_tyresFor 4 = .ok (.iload_n 1, 1) := by decide +kernel
theorem dX5_tyresFor_5 : decode cX5_tyresFor 5 = .ok (.ifCond .gt 7, 3) := by decide +kernel
theorem dX5_tyresFor_8 : decode cX5_tyresFor 8 = .ok (.iconst 0, 1) := by decide +kernel
theorem dX5_tyresFor_9 : decode cX5_tyresFor 9 = .ok (.goto 10, 3) := by decide +kernel
theorem dX5_tyresFor_12 : decode cX5_tyresFor 12 = .ok (.iload_n 0, 1) := by decide +kernel
theorem dX5_tyresFor_13 : decode cX5_tyresFor 13 = .ok (.iconst 1, 1) := by decide +kernel
theorem dX5_tyresFor_14 : decode cX5_tyresFor 14 = .ok (.isub, 1) := by decide +kernel
theorem dX5_tyresFor_15 : decode cX5_tyresFor 15 = .ok (.iload_n 1, 1) := by decide +kernel
theorem dX5_tyresFor_16 : decode cX5_tyresFor 16 = .ok (.idiv, 1) := by decide +kernel
theorem dX5_tyresFor_17 : decode cX5_tyresFor 17 = .ok (.iconst 1, 1) := by decide +kernel
theorem dX5_tyresFor_18 : decode cX5_tyresFor 18 = .ok (.iadd, 1) := by decide +kernel
theorem dX5_tyresFor_19 : decode cX5_tyresFor 19 = .ok (.ireturn, 1) := by decide +kernel
theorem dX5_tyresAt_0 : decode cX5_tyresAt 0 = .ok (.iconst 0, 1) := by decide +kernel
theorem dX5_tyresAt_1 : decode cX5_tyresAt 1 = .ok (.istore_n 2, 1) := by decide +kernel
theorem dX5_tyresAt_2 : decode cX5_tyresAt 2 = .ok (.iconst 0, 1) := by decide +kernel
theorem dX5_tyresAt_3 : decode cX5_tyresAt 3 = .ok (.istore_n 3, 1) := by decide +kernel
theorem dX5_tyresAt_4 : decode cX5_tyresAt 4 = .ok (.iload_n 3, 1) := by decide +kernel
theorem dX5_tyresAt_5 : decode cX5_tyresAt 5 = .ok (.bipush 40, 2) := by decide +kernel
theorem dX5_tyresAt_7 : decode cX5_tyresAt 7 = .ok (.if_icmp .ge 33, 3) := by decide +kernel
theorem dX5_tyresAt_10 : decode cX5_tyresAt 10 = .ok (.aload_n 0, 1) := by decide +kernel
theorem dX5_tyresAt_11 : decode cX5_tyresAt 11 = .ok (.iload_n 3, 1) := by decide +kernel
theorem dX5_tyresAt_12 : decode cX5_tyresAt 12 = .ok (.invokevirtual 132, 3) := by decide +kernel
theorem dX5_tyresAt_15 : decode cX5_tyresAt 15 = .ok (.astore 4, 2) := by decide +kernel
theorem dX5_tyresAt_17 : decode cX5_tyresAt 17 = .ok (.aload 4, 2) := by decide +kernel
theorem dX5_tyresAt_19 : decode cX5_tyresAt 19 = .ok (.ifnull 15, 3) := by decide +kernel
theorem dX5_tyresAt_22 : decode cX5_tyresAt 22 = .ok (.aload 4, 2) := by decide +kernel
