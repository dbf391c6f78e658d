theorem d_X_isEvent_0 : decode b_X_isEvent 0 = .ok (.iload_n 0, 1) := by decide +kernel
theorem d_X_isEvent_1 : decode b_X_isEvent 1 = .ok (.ifCond .lt 13, 3) := by decide +kernel
theorem d_X_isEvent_4 : decode b_X_isEvent 4 = .ok (.iload_n 0, 1) := by decide +kernel
theorem d_X_isEvent_5 : decode b_X_isEvent 5 = .ok (.bipush 16, 2) := by decide +kernel
theorem d_X_isEvent_7 : decode b_X_isEvent 7 = .ok (.if_icmp .ge 7, 3) := by decide +kernel
theorem d_X_isEvent_10 : decode b_X_isEvent 10 = .ok (.iconst 1, 1) := by decide +kernel
theorem d_X_isEvent_11 : decode b_X_isEvent 11 = .ok (.goto 4, 3) := by decide +kernel
theorem d_X_isEvent_14 : decode b_X_isEvent 14 = .ok (.iconst 0, 1) := by decide +kernel
theorem d_X_isEvent_15 : decode b_X_isEvent 15 = .ok (.ireturn, 1) := by decide +kernel
