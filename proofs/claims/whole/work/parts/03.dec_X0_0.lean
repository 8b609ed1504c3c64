theorem dX0_init_0 : decode cX0_init 0 = .ok (.aload_n 0, 1) := by decide +kernel
theorem dX0_init_1 : decode cX0_init 1 = .ok (.invokespecial 3, 3) := by decide +kernel
theorem dX0_init_4 : decode cX0_init 4 = .ok (.aload_n 0, 1) := by decide +kernel
theorem dX0_init_5 : decode cX0_init 5 = .ok (.sipush 600, 3) := by decide +kernel
theorem dX0_init_8 : decode cX0_init 8 = .ok (.newarray .int, 2) := by decide +kernel
theorem dX0_init_10 : decode cX0_init 10 = .ok (.putfield 9, 3) := by decide +kernel
theorem dX0_init_13 : decode cX0_init 13 = .ok (.aload_n 0, 1) := by decide +kernel
theorem dX0_init_14 : decode cX0_init 14 = .ok (.sipush 600, 3) := by decide +kernel
theorem dX0_init_17 : decode cX0_init 17 = .ok (.newarray .int, 2) := by decide +kernel
theorem dX0_init_19 : decode cX0_init 19 = .ok (.putfield 15, 3) := by decide +kernel
theorem dX0_init_22 : decode cX0_init 22 = .ok (.aload_n 0, 1) := by decide +kernel
theorem dX0_init_23 : decode cX0_init 23 = .ok (.sipush 600, 3) := by decide +kernel
theorem dX0_init_26 : decode cX0_init 26 = .ok (.newarray .int, 2) := by decide +kernel
theorem dX0_init_28 : decode cX0_init 28 = .ok (.putfield 18, 3) := by decide +kernel
theorem dX0_init_31 : decode cX0_init 31 = .ok (.return_, 1) := by decide +kernel
theorem dX0_hasRoomFor_0 : decode cX0_hasRoomFor 0 = .ok (.aload_n 0, 1) := by decide +kernel
theorem dX0_hasRoomFor_1 : decode cX0_hasRoomFor 1 = .ok (.getfield 21, 3) := by decide +kernel
theorem dX0_hasRoomFor_4 : decode cX0_hasRoomFor 4 = .ok (.iload_n 1, 1) := by decide +kernel
theorem dX0_hasRoomFor_5 : decode cX0_hasRoomFor 5 = .ok (.iadd, 1) := by decide +kernel
theorem dX0_hasRoomFor_6 : decode cX0_hasRoomFor 6 = .ok (.sipush 600, 3) := by decide +kernel
theorem dX0_hasRoomFor_9 : decode cX0_hasRoomFor 9 = .ok (.if_icmp .gt 7, 3) := by decide +kernel
theorem dX0_hasRoomFor_12 : decode cX0_hasRoomFor 12 = .ok (.iconst 1, 1) := by decide +kernel
theorem dX0_hasRoomFor_13 : decode cX0_hasRoomFor 13 = .ok (.goto 4, 3) := by decide +kernel
theorem dX0_hasRoomFor_16 : decode cX0_hasRoomFor 16 = .ok (.iconst 0, 1) := by decide +kernel
theorem dX0_hasRoomFor_17 : decode cX0_hasRoomFor 17 = .ok (.ireturn, 1) := by decide +kernel
theorem dX0_note_0 : decode cX0_note 0 = .ok (.aload_n 0, 1) := by decide +kernel
theorem dX0_note_1 : decode cX0_note 1 = .ok (.getfield 21, 3) := by decide +kernel
theorem dX0_note_4 : decode cX0_note 4 = .ok (.sipush 600, 3) := by decide +kernel
theorem dX0_note_7 : decode cX0_note 7 = .ok (.if_icmp .ge 49, 3) := by decide +kernel
theorem dX0_note_10 : decode cX0_note 10 = .ok (.aload_n 0, 1) := by decide +kernel
theorem dX0_note_11 : decode cX0_note 11 = .ok (.getfield 9, 3) := by decide +kernel
theorem dX0_note_14 : decode cX0_note 14 = .ok (.aload_n 0, 1) := by decide +kernel
theorem dX0_note_15 : decode cX0_note 15 = .ok (.getfield 21, 3) := by decide +kernel
theorem dX0_note_18 : decode cX0_note 18 = .ok (.iload_n 1, 1) := by decide +kernel
theorem dX0_note_19 : decode cX0_note 19 = .ok (.invokestatic 25, 3) := by decide +kernel
theorem dX0_note_22 : decode cX0_note 22 = .ok (.aload_n 0, 1) := by decide +kernel
theorem dX0_note_23 : decode cX0_note 23 = .ok (.getfield 15, 3) := by decide +kernel
theorem dX0_note_26 : decode cX0_note 26 = .ok (.aload_n 0, 1) := by decide +kernel
theorem dX0_note_27 : decode cX0_note 27 = .ok (.getfield 21, 3) := by decide +kernel
theorem dX0_note_30 : decode cX0_note 30 = .ok (.iload_n 2, 1) := by decide +kernel
theorem dX0_note_31 : decode cX0_note 31 = .ok (.invokestatic 25, 3) := by decide +kernel
theorem dX0_note_34 : decode cX0_note 34 = .ok (.aload_n 0, 1) := by decide +kernel
theorem dX0_note_35 : decode cX0_note 35 = .ok (.getfield 18, 3) := by decide +kernel
theorem dX0_note_38 : decode cX0_note 38 = .ok (.aload_n 0, 1) := by decide +kernel
theorem dX0_note_39 : decode cX0_note 39 = .ok (.getfield 21, 3) := by decide +kernel
theorem dX0_note_42 : decode cX0_note 42 = .ok (.iload_n 3, 1) := by decide +kernel
theorem dX0_note_43 : decode cX0_note 43 = .ok (.invokestatic 25, 3) := by decide +kernel
theorem dX0_note_46 : decode cX0_note 46 = .ok (.aload_n 0, 1) := by decide +kernel
theorem dX0_note_47 : decode cX0_note 47 = .ok (.dup, 1) := by decide +kernel
theorem dX0_note_48 : decode cX0_note 48 = .ok (.getfield 21, 3) := by decide +kernel
theorem dX0_note_51 : decode cX0_note 51 = .ok (.iconst 1, 1) := by decide +kernel
theorem dX0_note_52 : decode cX0_note 52 = .ok (.iadd, 1) := by decide +kernel
theorem dX0_note_53 : decode cX0_note 53 = .ok (.putfield 21, 3) := by decide +kernel
theorem dX0_note_56 : decode cX0_note 56 = .ok (.return_, 1) := by decide +kernel
theorem dX0_whereWas_0 : decode cX0_whereWas 0 = .ok (.aload_n 0, 1) := by decide +kernel
theorem dX0_whereWas_1 : decode cX0_whereWas 1 = .ok (.getfield 21, 3) := by decide +kernel
theorem dX0_whereWas_4 : decode cX0_whereWas 4 = .ok (.iconst 1, 1) := by decide +kernel
theorem dX0_whereWas_5 : decode cX0_whereWas 5 = .ok (.isub, 1) := by decide +kernel
theorem dX0_whereWas_6 : decode cX0_whereWas 6 = .ok (.istore_n 3, 1) := by decide +kernel
theorem dX0_whereWas_7 : decode cX0_whereWas 7 = .ok (.iload_n 3, 1) := by decide +kernel
theorem dX0_whereWas_8 : decode cX0_whereWas 8 = .ok (.ifCond .lt 42, 3) := by decide +kernel
theorem dX0_whereWas_11 : decode cX0_whereWas 11 = .ok (.aload_n 0, 1) := by decide +kernel
theorem dX0_whereWas_12 : decode cX0_whereWas 12 = .ok (.getfield 15, 3) := by decide +kernel
theorem dX0_whereWas_15 : decode cX0_whereWas 15 = .ok (.iload_n 3, 1) := by decide +kernel
theorem dX0_whereWas_16 : decode cX0_whereWas 16 = .ok (.invokestatic 29, 3) := by decide +kernel
theorem dX0_whereWas_19 : decode cX0_whereWas 19 = .ok (.iload_n 1, 1) := by decide +kernel
theorem dX0_whereWas_20 : decode cX0_whereWas 20 = .ok (.if_icmp .ne 24, 3) := by decide +kernel
theorem dX0_whereWas_23 : decode cX0_whereWas 23 = .ok (.aload_n 0, 1) := by decide +kernel
theorem dX0_whereWas_24 : decode cX0_whereWas 24 = .ok (.getfield 9, 3) := by decide +kernel
theorem dX0_whereWas_27 : decode cX0_whereWas 27 = .ok (.iload_n 3, 1) := by decide +kernel
theorem dX0_whereWas_28 : decode cX0_whereWas 28 = .ok (.invokestatic 29, 3) := by decide +kernel
theorem dX0_whereWas_31 : decode cX0_whereWas 31 = .ok (.iload_n 2, 1) := by decide +kernel
theorem dX0_whereWas_32 : decode cX0_whereWas 32 = .ok (.if_icmp .gt 12, 3) := by decide +kernel
theorem dX0_whereWas_35 : decode cX0_whereWas 35 = .ok (.aload_n 0, 1) := by decide +kernel
theorem dX0_whereWas_36 : decode cX0_whereWas 36 = .ok (.getfield 18, 3) := by decide +kernel
theorem dX0_whereWas_39 : decode cX0_whereWas 39 = .ok (.iload_n 3, 1) := by decide +kernel
theorem dX0_whereWas_40 : decode cX0_whereWas 40 = .ok (.invokestatic 29, 3) := by decide +kernel
theorem dX0_whereWas_43 : decode cX0_whereWas 43 = .ok (.ireturn, 1) := by decide +kernel
theorem dX0_whereWas_44 : decode cX0_whereWas 44 = .ok (.iinc 3 (-1), 3) := by decide +kernel
theorem dX0_whereWas_47 : decode cX0_whereWas 47 = .ok (.goto (-40), 3) := by decide +kernel
theorem dX0_whereWas_50 : decode cX0_whereWas 50 = .ok (.bipush (-9), 2) := by decide +kernel
theorem dX0_whereWas_52 : decode cX0_whereWas 52 = .ok (.ireturn, 1) := by decide +kernel
