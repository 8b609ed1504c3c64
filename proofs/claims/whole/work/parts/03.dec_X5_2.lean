theorem dX5_tyresAt_24 : decode cX5_tyresAt 24 = .ok (.getfield 139, 3) := by decide +kernel
theorem dX5_tyresAt_27 : decode cX5_tyresAt 27 = .ok (.iload_n 1, 1) := by decide +kernel
theorem dX5_tyresAt_28 : decode cX5_tyresAt 28 = .ok (.if_icmp .ne 6, 3) := by decide +kernel
theorem dX5_tyresAt_31 : decode cX5_tyresAt 31 = .ok (.iinc 2 1, 3) := by decide +kernel
theorem dX5_tyresAt_34 : decode cX5_tyresAt 34 = .ok (.iinc 3 1, 3) := by decide +kernel
theorem dX5_tyresAt_37 : decode cX5_tyresAt 37 = .ok (.goto (-33), 3) := by decide +kernel
theorem dX5_tyresAt_40 : decode cX5_tyresAt 40 = .ok (.iload_n 2, 1) := by decide +kernel
theorem dX5_tyresAt_41 : decode cX5_tyresAt 41 = .ok (.ireturn, 1) := by decide +kernel
