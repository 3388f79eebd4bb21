theorem dX1_leaveCall_28 : decode cX1_leaveCall 28 = .ok (.aload_n 0, 1) := by decide +kernel
theorem dX1_leaveCall_29 : decode cX1_leaveCall 29 = .ok (.aload_n 0, 1) := by decide +kernel
theorem dX1_leaveCall_30 : decode cX1_leaveCall 30 = .ok (.getfield 12, 3) := by decide +kernel
theorem dX1_leaveCall_33 : decode cX1_leaveCall 33 = .ok (.iload_n 1, 1) := by decide +kernel
theorem dX1_leaveCall_34 : decode cX1_leaveCall 34 = .ok (.invokevirtual 168, 3) := by decide +kernel
theorem dX1_leaveCall_37 : decode cX1_leaveCall 37 = .ok (.putfield 45, 3) := by decide +kernel
theorem dX1_leaveCall_40 : decode cX1_leaveCall 40 = .ok (.aload_n 0, 1) := by decide +kernel
theorem dX1_leaveCall_41 : decode cX1_leaveCall 41 = .ok (.aload_n 0, 1) := by decide +kernel
theorem dX1_leaveCall_42 : decode cX1_leaveCall 42 = .ok (.getfield 12, 3) := by decide +kernel
theorem dX1_leaveCall_45 : decode cX1_leaveCall 45 = .ok (.iload_n 1, 1) := by decide +kernel
theorem dX1_leaveCall_46 : decode cX1_leaveCall 46 = .ok (.invokevirtual 143, 3) := by decide +kernel
theorem dX1_leaveCall_49 : decode cX1_leaveCall 49 = .ok (.putfield 48, 3) := by decide +kernel
theorem dX1_leaveCall_52 : decode cX1_leaveCall 52 = .ok (.aload_n 0, 1) := by decide +kernel
theorem dX1_leaveCall_53 : decode cX1_leaveCall 53 = .ok (.getfield 12, 3) := by decide +kernel
theorem dX1_leaveCall_56 : decode cX1_leaveCall 56 = .ok (.invokevirtual 171, 3) := by decide +kernel
theorem dX1_leaveCall_59 : decode cX1_leaveCall 59 = .ok (.return_, 1) := by decide +kernel
theorem dX1_operate_0 : decode cX1_operate 0 = .ok (.iload_n 1, 1) := by decide +kernel
theorem dX1_operate_1 : decode cX1_operate 1 = .ok (.bipush 18, 2) := by decide +kernel
theorem dX1_operate_3 : decode cX1_operate 3 = .ok (.if_icmp .ne 8, 3) := by decide +kernel
theorem dX1_operate_6 : decode cX1_operate 6 = .ok (.aload_n 0, 1) := by decide +kernel
theorem dX1_operate_7 : decode cX1_operate 7 = .ok (.invokevirtual 174, 3) := by decide +kernel
theorem dX1_operate_10 : decode cX1_operate 10 = .ok (.return_, 1) := by decide +kernel
theorem dX1_operate_11 : decode cX1_operate 11 = .ok (.aload_n 0, 1) := by decide +kernel
theorem dX1_operate_12 : decode cX1_operate 12 = .ok (.getfield 60, 3) := by decide +kernel
theorem dX1_operate_15 : decode cX1_operate 15 = .ok (.ifCond .le 12, 3) := by decide +kernel
theorem dX1_operate_18 : decode cX1_operate 18 = .ok (.aload_n 0, 1) := by decide +kernel
theorem dX1_operate_19 : decode cX1_operate 19 = .ok (.getfield 60, 3) := by decide +kernel
theorem dX1_operate_22 : decode cX1_operate 22 = .ok (.bipush 100, 2) := by decide +kernel
theorem dX1_operate_24 : decode cX1_operate 24 = .ok (.if_icmp .le 4, 3) := by decide +kernel
theorem dX1_operate_27 : decode cX1_operate 27 = .ok (.return_, 1) := by decide +kernel
theorem dX1_operate_28 : decode cX1_operate 28 = .ok (.aload_n 0, 1) := by decide +kernel
theorem dX1_operate_29 : decode cX1_operate 29 = .ok (.dup, 1) := by decide +kernel
theorem dX1_operate_30 : decode cX1_operate 30 = .ok (.getfield 60, 3) := by decide +kernel
theorem dX1_operate_33 : decode cX1_operate 33 = .ok (.iconst 1, 1) := by decide +kernel
theorem dX1_operate_34 : decode cX1_operate 34 = .ok (.isub, 1) := by decide +kernel
theorem dX1_operate_35 : decode cX1_operate 35 = .ok (.putfield 60, 3) := by decide +kernel
theorem dX1_operate_38 : decode cX1_operate 38 = .ok (.aload_n 0, 1) := by decide +kernel
theorem dX1_operate_39 : decode cX1_operate 39 = .ok (.getfield 25, 3) := by decide +kernel
theorem dX1_operate_42 : decode cX1_operate 42 = .ok (.aload_n 0, 1) := by decide +kernel
theorem dX1_operate_43 : decode cX1_operate 43 = .ok (.getfield 60, 3) := by decide +kernel
theorem dX1_operate_46 : decode cX1_operate 46 = .ok (.iaload, 1) := by decide +kernel
theorem dX1_operate_47 : decode cX1_operate 47 = .ok (.istore_n 2, 1) := by decide +kernel
theorem dX1_operate_48 : decode cX1_operate 48 = .ok (.iload_n 1, 1) := by decide +kernel
theorem dX1_operate_49 : decode cX1_operate 49 = .ok (.bipush 19, 2) := by decide +kernel
theorem dX1_operate_51 : decode cX1_operate 51 = .ok (.if_icmp .ne 16, 3) := by decide +kernel
theorem dX1_operate_54 : decode cX1_operate 54 = .ok (.aload_n 0, 1) := by decide +kernel
theorem dX1_operate_55 : decode cX1_operate 55 = .ok (.iload_n 2, 1) := by decide +kernel
theorem dX1_operate_56 : decode cX1_operate 56 = .ok (.aload_n 0, 1) := by decide +kernel
theorem dX1_operate_57 : decode cX1_operate 57 = .ok (.getfield 51, 3) := by decide +kernel
theorem dX1_operate_60 : decode cX1_operate 60 = .ok (.iadd, 1) := by decide +kernel
theorem dX1_operate_61 : decode cX1_operate 61 = .ok (.putfield 51, 3) := by decide +kernel
theorem dX1_operate_64 : decode cX1_operate 64 = .ok (.goto 58, 3) := by decide +kernel
theorem dX1_operate_67 : decode cX1_operate 67 = .ok (.iload_n 1, 1) := by decide +kernel
theorem dX1_operate_68 : decode cX1_operate 68 = .ok (.bipush 20, 2) := by decide +kernel
theorem dX1_operate_70 : decode cX1_operate 70 = .ok (.if_icmp .ne 16, 3) := by decide +kernel
theorem dX1_operate_73 : decode cX1_operate 73 = .ok (.aload_n 0, 1) := by decide +kernel
theorem dX1_operate_74 : decode cX1_operate 74 = .ok (.iload_n 2, 1) := by decide +kernel
theorem dX1_operate_75 : decode cX1_operate 75 = .ok (.aload_n 0, 1) := by decide +kernel
theorem dX1_operate_76 : decode cX1_operate 76 = .ok (.getfield 51, 3) := by decide +kernel
theorem dX1_operate_79 : decode cX1_operate 79 = .ok (.isub, 1) := by decide +kernel
theorem dX1_operate_80 : decode cX1_operate 80 = .ok (.putfield 51, 3) := by decide +kernel
theorem dX1_operate_83 : decode cX1_operate 83 = .ok (.goto 39, 3) := by decide +kernel
theorem dX1_operate_86 : decode cX1_operate 86 = .ok (.iload_n 1, 1) := by decide +kernel
theorem dX1_operate_87 : decode cX1_operate 87 = .ok (.bipush 21, 2) := by decide +kernel
theorem dX1_operate_89 : decode cX1_operate 89 = .ok (.if_icmp .ne 16, 3) := by decide +kernel
theorem dX1_operate_92 : decode cX1_operate 92 = .ok (.aload_n 0, 1) := by decide +kernel
theorem dX1_operate_93 : decode cX1_operate 93 = .ok (.iload_n 2, 1) := by decide +kernel
theorem dX1_operate_94 : decode cX1_operate 94 = .ok (.aload_n 0, 1) := by decide +kernel
theorem dX1_operate_95 : decode cX1_operate 95 = .ok (.getfield 51, 3) := by decide +kernel
theorem dX1_operate_98 : decode cX1_operate 98 = .ok (.imul, 1) := by decide +kernel
theorem dX1_operate_99 : decode cX1_operate 99 = .ok (.putfield 51, 3) := by decide +kernel
theorem dX1_operate_102 : decode cX1_operate 102 = .ok (.goto 20, 3) := by decide +kernel
theorem dX1_operate_105 : decode cX1_operate 105 = .ok (.aload_n 0, 1) := by decide +kernel
theorem dX1_operate_106 : decode cX1_operate 106 = .ok (.iload_n 2, 1) := by decide +kernel
theorem dX1_operate_107 : decode cX1_operate 107 = .ok (.aload_n 0, 1) := by decide +kernel
theorem dX1_operate_108 : decode cX1_operate 108 = .ok (.getfield 51, 3) := by decide +kernel
theorem dX1_operate_111 : decode cX1_operate 111 = .ok (.if_icmp .ge 7, 3) := by decide +kernel
theorem dX1_operate_114 : decode cX1_operate 114 = .ok (.iconst 1, 1) := by decide +kernel
theorem dX1_operate_115 : decode cX1_operate 115 = .ok (.goto 4, 3) := by decide +kernel
theorem dX1_operate_118 : decode cX1_operate 118 = .ok (.iconst 0, 1) := by decide +kernel
theorem dX1_operate_119 : decode cX1_operate 119 = .ok (.putfield 51, 3) := by decide +kernel
theorem dX1_operate_122 : decode cX1_operate 122 = .ok (.return_, 1) := by decide +kernel
theorem dX1_beginToWait_0 : decode cX1_beginToWait 0 = .ok (.aload_n 0, 1) := by decide +kernel
theorem dX1_beginToWait_1 : decode cX1_beginToWait 1 = .ok (.getfield 60, 3) := by decide +kernel
theorem dX1_beginToWait_4 : decode cX1_beginToWait 4 = .ok (.ifCond .lt 12, 3) := by decide +kernel
theorem dX1_beginToWait_7 : decode cX1_beginToWait 7 = .ok (.aload_n 0, 1) := by decide +kernel
theorem dX1_beginToWait_8 : decode cX1_beginToWait 8 = .ok (.getfield 60, 3) := by decide +kernel
theorem dX1_beginToWait_11 : decode cX1_beginToWait 11 = .ok (.bipush 100, 2) := by decide +kernel
theorem dX1_beginToWait_13 : decode cX1_beginToWait 13 = .ok (.if_icmp .lt 10, 3) := by decide +kernel
theorem dX1_beginToWait_16 : decode cX1_beginToWait 16 = .ok (.aload_n 0, 1) := by decide +kernel
theorem dX1_beginToWait_17 : decode cX1_beginToWait 17 = .ok (.bipush 7, 2) := by decide +kernel
theorem dX1_beginToWait_19 : decode cX1_beginToWait 19 = .ok (.putfield 42, 3) := by decide +kernel
theorem dX1_beginToWait_22 : decode cX1_beginToWait 22 = .ok (.return_, 1) := by decide +kernel
theorem dX1_beginToWait_23 : decode cX1_beginToWait 23 = .ok (.aload_n 0, 1) := by decide +kernel
theorem dX1_beginToWait_24 : decode cX1_beginToWait 24 = .ok (.getfield 25, 3) := by decide +kernel
theorem dX1_beginToWait_27 : decode cX1_beginToWait 27 = .ok (.aload_n 0, 1) := by decide +kernel
theorem dX1_beginToWait_28 : decode cX1_beginToWait 28 = .ok (.getfield 60, 3) := by decide +kernel
theorem dX1_beginToWait_31 : decode cX1_beginToWait 31 = .ok (.aload_n 0, 1) := by decide +kernel
theorem dX1_beginToWait_32 : decode cX1_beginToWait 32 = .ok (.getfield 51, 3) := by decide +kernel
theorem dX1_beginToWait_35 : decode cX1_beginToWait 35 = .ok (.iastore, 1) := by decide +kernel
theorem dX1_beginToWait_36 : decode cX1_beginToWait 36 = .ok (.aload_n 0, 1) := by decide +kernel
theorem dX1_beginToWait_37 : decode cX1_beginToWait 37 = .ok (.dup, 1) := by decide +kernel
theorem dX1_beginToWait_38 : decode cX1_beginToWait 38 = .ok (.getfield 60, 3) := by decide +kernel
theorem dX1_beginToWait_41 : decode cX1_beginToWait 41 = .ok (.iconst 1, 1) := by decide +kernel
theorem dX1_beginToWait_42 : decode cX1_beginToWait 42 = .ok (.iadd, 1) := by decide +kernel
theorem dX1_beginToWait_43 : decode cX1_beginToWait 43 = .ok (.putfield 60, 3) := by decide +kernel
theorem dX1_beginToWait_46 : decode cX1_beginToWait 46 = .ok (.return_, 1) := by decide +kernel
