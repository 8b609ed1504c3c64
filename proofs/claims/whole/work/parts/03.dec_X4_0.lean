theorem dX4_init_0 : decode cX4_init 0 = .ok (.aload_n 0, 1) := by decide +kernel
theorem dX4_init_1 : decode cX4_init 1 = .ok (.invokespecial 3, 3) := by decide +kernel
theorem dX4_init_4 : decode cX4_init 4 = .ok (.aload_n 0, 1) := by decide +kernel
theorem dX4_init_5 : decode cX4_init 5 = .ok (.lconst 0, 1) := by decide +kernel
theorem dX4_init_6 : decode cX4_init 6 = .ok (.putfield 9, 3) := by decide +kernel
theorem dX4_init_9 : decode cX4_init 9 = .ok (.aload_n 0, 1) := by decide +kernel
theorem dX4_init_10 : decode cX4_init 10 = .ok (.lconst 1, 1) := by decide +kernel
theorem dX4_init_11 : decode cX4_init 11 = .ok (.putfield 15, 3) := by decide +kernel
theorem dX4_init_14 : decode cX4_init 14 = .ok (.return_, 1) := by decide +kernel
theorem dX4_become_0 : decode cX4_become 0 = .ok (.lload_n 1, 1) := by decide +kernel
theorem dX4_become_1 : decode cX4_become 1 = .ok (.lload_n 3, 1) := by decide +kernel
theorem dX4_become_2 : decode cX4_become 2 = .ok (.invokestatic 18, 3) := by decide +kernel
theorem dX4_become_5 : decode cX4_become 5 = .ok (.lstore 5, 2) := by decide +kernel
theorem dX4_become_7 : decode cX4_become 7 = .ok (.lload_n 1, 1) := by decide +kernel
theorem dX4_become_8 : decode cX4_become 8 = .ok (.lconst 0, 1) := by decide +kernel
theorem dX4_become_9 : decode cX4_become 9 = .ok (.lcmp, 1) := by decide +kernel
theorem dX4_become_10 : decode cX4_become 10 = .ok (.ifCond .le 16, 3) := by decide +kernel
theorem dX4_become_13 : decode cX4_become 13 = .ok (.lload_n 3, 1) := by decide +kernel
theorem dX4_become_14 : decode cX4_become 14 = .ok (.lconst 0, 1) := by decide +kernel
theorem dX4_become_15 : decode cX4_become 15 = .ok (.lcmp, 1) := by decide +kernel
theorem dX4_become_16 : decode cX4_become 16 = .ok (.ifCond .le 10, 3) := by decide +kernel
theorem dX4_become_19 : decode cX4_become 19 = .ok (.lload 5, 2) := by decide +kernel
theorem dX4_become_21 : decode cX4_become 21 = .ok (.lconst 0, 1) := by decide +kernel
theorem dX4_become_22 : decode cX4_become 22 = .ok (.lcmp, 1) := by decide +kernel
theorem dX4_become_23 : decode cX4_become 23 = .ok (.ifCond .gt 14, 3) := by decide +kernel
theorem dX4_become_26 : decode cX4_become 26 = .ok (.aload_n 0, 1) := by decide +kernel
theorem dX4_become_27 : decode cX4_become 27 = .ok (.lconst 0, 1) := by decide +kernel
theorem dX4_become_28 : decode cX4_become 28 = .ok (.putfield 9, 3) := by decide +kernel
theorem dX4_become_31 : decode cX4_become 31 = .ok (.aload_n 0, 1) := by decide +kernel
theorem dX4_become_32 : decode cX4_become 32 = .ok (.lconst 1, 1) := by decide +kernel
theorem dX4_become_33 : decode cX4_become 33 = .ok (.putfield 15, 3) := by decide +kernel
theorem dX4_become_36 : decode cX4_become 36 = .ok (.return_, 1) := by decide +kernel
theorem dX4_become_37 : decode cX4_become 37 = .ok (.aload_n 0, 1) := by decide +kernel
theorem dX4_become_38 : decode cX4_become 38 = .ok (.lload_n 1, 1) := by decide +kernel
theorem dX4_become_39 : decode cX4_become 39 = .ok (.lload 5, 2) := by decide +kernel
theorem dX4_become_41 : decode cX4_become 41 = .ok (.ldiv, 1) := by decide +kernel
theorem dX4_become_42 : decode cX4_become 42 = .ok (.putfield 9, 3) := by decide +kernel
theorem dX4_become_45 : decode cX4_become 45 = .ok (.aload_n 0, 1) := by decide +kernel
theorem dX4_become_46 : decode cX4_become 46 = .ok (.lload_n 3, 1) := by decide +kernel
theorem dX4_become_47 : decode cX4_become 47 = .ok (.lload 5, 2) := by decide +kernel
theorem dX4_become_49 : decode cX4_become 49 = .ok (.ldiv, 1) := by decide +kernel
theorem dX4_become_50 : decode cX4_become 50 = .ok (.putfield 15, 3) := by decide +kernel
theorem dX4_become_53 : decode cX4_become 53 = .ok (.return_, 1) := by decide +kernel
theorem dX4_commonFactor_0 : decode cX4_commonFactor 0 = .ok (.lload_n 0, 1) := by decide +kernel
theorem dX4_commonFactor_1 : decode cX4_commonFactor 1 = .ok (.lstore 4, 2) := by decide +kernel
theorem dX4_commonFactor_3 : decode cX4_commonFactor 3 = .ok (.lload_n 2, 1) := by decide +kernel
theorem dX4_commonFactor_4 : decode cX4_commonFactor 4 = .ok (.lstore 6, 2) := by decide +kernel
theorem dX4_commonFactor_6 : decode cX4_commonFactor 6 = .ok (.iconst 0, 1) := by decide +kernel
theorem dX4_commonFactor_7 : decode cX4_commonFactor 7 = .ok (.istore 8, 2) := by decide +kernel
theorem dX4_commonFactor_9 : decode cX4_commonFactor 9 = .ok (.iload 8, 2) := by decide +kernel
theorem dX4_commonFactor_11 : decode cX4_commonFactor 11 = .ok (.bipush 100, 2) := by decide +kernel
theorem dX4_commonFactor_13 : decode cX4_commonFactor 13 = .ok (.if_icmp .ge 31, 3) := by decide +kernel
theorem dX4_commonFactor_16 : decode cX4_commonFactor 16 = .ok (.lload 6, 2) := by decide +kernel
theorem dX4_commonFactor_18 : decode cX4_commonFactor 18 = .ok (.lconst 0, 1) := by decide +kernel
theorem dX4_commonFactor_19 : decode cX4_commonFactor 19 = .ok (.lcmp, 1) := by decide +kernel
theorem dX4_commonFactor_20 : decode cX4_commonFactor 20 = .ok (.ifCond .eq 24, 3) := by decide +kernel
theorem dX4_commonFactor_23 : decode cX4_commonFactor 23 = .ok (.lload 4, 2) := by decide +kernel
theorem dX4_commonFactor_25 : decode cX4_commonFactor 25 = .ok (.lload 6, 2) := by decide +kernel
theorem dX4_commonFactor_27 : decode cX4_commonFactor 27 = .ok (.lrem, 1) := by decide +kernel
theorem dX4_commonFactor_28 : decode cX4_commonFactor 28 = .ok (.lstore 9, 2) := by decide +kernel
theorem dX4_commonFactor_30 : decode cX4_commonFactor 30 = .ok (.lload 6, 2) := by decide +kernel
theorem dX4_commonFactor_32 : decode cX4_commonFactor 32 = .ok (.lstore 4, 2) := by decide +kernel
theorem dX4_commonFactor_34 : decode cX4_commonFactor 34 = .ok (.lload 9, 2) := by decide +kernel
theorem dX4_commonFactor_36 : decode cX4_commonFactor 36 = .ok (.lstore 6, 2) := by decide +kernel
theorem dX4_commonFactor_38 : decode cX4_commonFactor 38 = .ok (.iinc 8 1, 3) := by decide +kernel
theorem dX4_commonFactor_41 : decode cX4_commonFactor 41 = .ok (.goto (-32), 3) := by decide +kernel
theorem dX4_commonFactor_44 : decode cX4_commonFactor 44 = .ok (.lload 4, 2) := by decide +kernel
theorem dX4_commonFactor_46 : decode cX4_commonFactor 46 = .ok (.lreturn, 1) := by decide +kernel
theorem dX4_depthFrom_0 : decode cX4_depthFrom 0 = .ok (.iload_n 1, 1) := by decide +kernel
theorem dX4_depthFrom_1 : decode cX4_depthFrom 1 = .ok (.i2l, 1) := by decide +kernel
theorem dX4_depthFrom_2 : decode cX4_depthFrom 2 = .ok (.aload_n 0, 1) := by decide +kernel
theorem dX4_depthFrom_3 : decode cX4_depthFrom 3 = .ok (.getfield 15, 3) := by decide +kernel
theorem dX4_depthFrom_6 : decode cX4_depthFrom 6 = .ok (.lmul, 1) := by decide +kernel
theorem dX4_depthFrom_7 : decode cX4_depthFrom 7 = .ok (.aload_n 0, 1) := by decide +kernel
theorem dX4_depthFrom_8 : decode cX4_depthFrom 8 = .ok (.getfield 9, 3) := by decide +kernel
theorem dX4_depthFrom_11 : decode cX4_depthFrom 11 = .ok (.iload_n 2, 1) := by decide +kernel
theorem dX4_depthFrom_12 : decode cX4_depthFrom 12 = .ok (.i2l, 1) := by decide +kernel
theorem dX4_depthFrom_13 : decode cX4_depthFrom 13 = .ok (.lmul, 1) := by decide +kernel
theorem dX4_depthFrom_14 : decode cX4_depthFrom 14 = .ok (.lsub, 1) := by decide +kernel
theorem dX4_depthFrom_15 : decode cX4_depthFrom 15 = .ok (.lstore_n 3, 1) := by decide +kernel
theorem dX4_depthFrom_16 : decode cX4_depthFrom 16 = .ok (.lload_n 3, 1) := by decide +kernel
theorem dX4_depthFrom_17 : decode cX4_depthFrom 17 = .ok (.lconst 0, 1) := by decide +kernel
theorem dX4_depthFrom_18 : decode cX4_depthFrom 18 = .ok (.lcmp, 1) := by decide +kernel
theorem dX4_depthFrom_19 : decode cX4_depthFrom 19 = .ok (.ifCond .le 12, 3) := by decide +kernel
theorem dX4_depthFrom_22 : decode cX4_depthFrom 22 = .ok (.aload_n 0, 1) := by decide +kernel
theorem dX4_depthFrom_23 : decode cX4_depthFrom 23 = .ok (.getfield 15, 3) := by decide +kernel
theorem dX4_depthFrom_26 : decode cX4_depthFrom 26 = .ok (.lconst 0, 1) := by decide +kernel
theorem dX4_depthFrom_27 : decode cX4_depthFrom 27 = .ok (.lcmp, 1) := by decide +kernel
theorem dX4_depthFrom_28 : decode cX4_depthFrom 28 = .ok (.ifCond .gt 7, 3) := by decide +kernel
theorem dX4_depthFrom_31 : decode cX4_depthFrom 31 = .ok (.iconst 0, 1) := by decide +kernel
theorem dX4_depthFrom_32 : decode cX4_depthFrom 32 = .ok (.goto 10, 3) := by decide +kernel
theorem dX4_depthFrom_35 : decode cX4_depthFrom 35 = .ok (.lload_n 3, 1) := by decide +kernel
theorem dX4_depthFrom_36 : decode cX4_depthFrom 36 = .ok (.aload_n 0, 1) := by decide +kernel
theorem dX4_depthFrom_37 : decode cX4_depthFrom 37 = .ok (.getfield 15, 3) := by decide +kernel
theorem dX4_depthFrom_40 : decode cX4_depthFrom 40 = .ok (.ldiv, 1) := by decide +kernel
theorem dX4_depthFrom_41 : decode cX4_depthFrom 41 = .ok (.l2i, 1) := by decide +kernel
theorem dX4_depthFrom_42 : decode cX4_depthFrom 42 = .ok (.ireturn, 1) := by decide +kernel
theorem dX4_endFrom_0 : decode cX4_endFrom 0 = .ok (.iload_n 3, 1) := by decide +kernel
theorem dX4_endFrom_1 : decode cX4_endFrom 1 = .ok (.ifCond .gt 6, 3) := by decide +kernel
theorem dX4_endFrom_4 : decode cX4_endFrom 4 = .ok (.ldc 22, 2) := by decide +kernel
theorem dX4_endFrom_6 : decode cX4_endFrom 6 = .ok (.ireturn, 1) := by decide +kernel
theorem dX4_endFrom_7 : decode cX4_endFrom 7 = .ok (.iload_n 1, 1) := by decide +kernel
theorem dX4_endFrom_8 : decode cX4_endFrom 8 = .ok (.iload_n 3, 1) := by decide +kernel
theorem dX4_endFrom_9 : decode cX4_endFrom 9 = .ok (.if_icmp .ge 5, 3) := by decide +kernel
theorem dX4_endFrom_12 : decode cX4_endFrom 12 = .ok (.iconst 0, 1) := by decide +kernel
theorem dX4_endFrom_13 : decode cX4_endFrom 13 = .ok (.ireturn, 1) := by decide +kernel
theorem dX4_endFrom_14 : decode cX4_endFrom 14 = .ok (.aload_n 0, 1) := by decide +kernel
theorem dX4_endFrom_15 : decode cX4_endFrom 15 = .ok (.getfield 9, 3) := by decide +kernel
theorem dX4_endFrom_18 : decode cX4_endFrom 18 = .ok (.lconst 0, 1) := by decide +kernel
theorem dX4_endFrom_19 : decode cX4_endFrom 19 = .ok (.lcmp, 1) := by decide +kernel
theorem dX4_endFrom_20 : decode cX4_endFrom 20 = .ok (.ifCond .gt 6, 3) := by decide +kernel
theorem dX4_endFrom_23 : decode cX4_endFrom 23 = .ok (.ldc 22, 2) := by decide +kernel
theorem dX4_endFrom_25 : decode cX4_endFrom 25 = .ok (.ireturn, 1) := by decide +kernel
theorem dX4_endFrom_26 : decode cX4_endFrom 26 = .ok (.iload_n 1, 1) := by decide +kernel
theorem dX4_endFrom_27 : decode cX4_endFrom 27 = .ok (.iload_n 3, 1) := by decide +kernel
theorem dX4_endFrom_28 : decode cX4_endFrom 28 = .ok (.isub, 1) := by decide +kernel
theorem dX4_endFrom_29 : decode cX4_endFrom 29 = .ok (.i2l, 1) := by decide +kernel
theorem dX4_endFrom_30 : decode cX4_endFrom 30 = .ok (.aload_n 0, 1) := by decide +kernel
theorem dX4_endFrom_31 : decode cX4_endFrom 31 = .ok (.getfield 15, 3) := by decide +kernel
theorem dX4_endFrom_34 : decode cX4_endFrom 34 = .ok (.lmul, 1) := by decide +kernel
theorem dX4_endFrom_35 : decode cX4_endFrom 35 = .ok (.aload_n 0, 1) := by decide +kernel
theorem dX4_endFrom_36 : decode cX4_endFrom 36 = .ok (.getfield 9, 3) := by decide +kernel
theorem dX4_endFrom_39 : decode cX4_endFrom 39 = .ok (.ldiv, 1) := by decide +kernel
theorem dX4_endFrom_40 : decode cX4_endFrom 40 = .ok (.lstore 4, 2) := by decide +kernel
theorem dX4_endFrom_42 : decode cX4_endFrom 42 = .ok (.lconst 0, 1) := by decide +kernel
theorem dX4_endFrom_43 : decode cX4_endFrom 43 = .ok (.ldc2_w 23, 3) := by decide +kernel
theorem dX4_endFrom_46 : decode cX4_endFrom 46 = .ok (.lload 4, 2) := by decide +kernel
theorem dX4_endFrom_48 : decode cX4_endFrom 48 = .ok (.iload_n 2, 1) := by decide +kernel
theorem dX4_endFrom_49 : decode cX4_endFrom 49 = .ok (.i2l, 1) := by decide +kernel
theorem dX4_endFrom_50 : decode cX4_endFrom 50 = .ok (.lsub, 1) := by decide +kernel
theorem dX4_endFrom_51 : decode cX4_endFrom 51 = .ok (.invokestatic 25, 3) := by decide +kernel
theorem dX4_endFrom_54 : decode cX4_endFrom 54 = .ok (.invokestatic 30, 3) := by decide +kernel
theorem dX4_endFrom_57 : decode cX4_endFrom 57 = .ok (.l2i, 1) := by decide +kernel
theorem dX4_endFrom_58 : decode cX4_endFrom 58 = .ok (.ireturn, 1) := by decide +kernel
