theorem dX0_init_0 : decode cX0_init 0 = .ok (.aload_n 0, 1) := by decide +kernel
theorem dX0_init_1 : decode cX0_init 1 = .ok (.invokespecial 3, 3) := by decide +kernel
theorem dX0_init_4 : decode cX0_init 4 = .ok (.aload_n 0, 1) := by decide +kernel
theorem dX0_init_5 : decode cX0_init 5 = .ok (.sipush 961, 3) := by decide +kernel
theorem dX0_init_8 : decode cX0_init 8 = .ok (.newarray .int, 2) := by decide +kernel
theorem dX0_init_10 : decode cX0_init 10 = .ok (.putfield 9, 3) := by decide +kernel
theorem dX0_init_13 : decode cX0_init 13 = .ok (.aload_n 0, 1) := by decide +kernel
theorem dX0_init_14 : decode cX0_init 14 = .ok (.bipush 31, 2) := by decide +kernel
theorem dX0_init_16 : decode cX0_init 16 = .ok (.newarray .int, 2) := by decide +kernel
theorem dX0_init_18 : decode cX0_init 18 = .ok (.putfield 15, 3) := by decide +kernel
theorem dX0_init_21 : decode cX0_init 21 = .ok (.aload_n 0, 1) := by decide +kernel
theorem dX0_init_22 : decode cX0_init 22 = .ok (.bipush 31, 2) := by decide +kernel
theorem dX0_init_24 : decode cX0_init 24 = .ok (.newarray .int, 2) := by decide +kernel
theorem dX0_init_26 : decode cX0_init 26 = .ok (.putfield 18, 3) := by decide +kernel
theorem dX0_init_29 : decode cX0_init 29 = .ok (.aload_n 0, 1) := by decide +kernel
theorem dX0_init_30 : decode cX0_init 30 = .ok (.bipush 31, 2) := by decide +kernel
theorem dX0_init_32 : decode cX0_init 32 = .ok (.newarray .int, 2) := by decide +kernel
theorem dX0_init_34 : decode cX0_init 34 = .ok (.putfield 21, 3) := by decide +kernel
theorem dX0_init_37 : decode cX0_init 37 = .ok (.aload_n 0, 1) := by decide +kernel
theorem dX0_init_38 : decode cX0_init 38 = .ok (.bipush 31, 2) := by decide +kernel
theorem dX0_init_40 : decode cX0_init 40 = .ok (.newarray .int, 2) := by decide +kernel
theorem dX0_init_42 : decode cX0_init 42 = .ok (.putfield 24, 3) := by decide +kernel
theorem dX0_init_45 : decode cX0_init 45 = .ok (.return_, 1) := by decide +kernel
theorem dX0_clear_0 : decode cX0_clear 0 = .ok (.aload_n 0, 1) := by decide +kernel
theorem dX0_clear_1 : decode cX0_clear 1 = .ok (.iconst 0, 1) := by decide +kernel
theorem dX0_clear_2 : decode cX0_clear 2 = .ok (.putfield 27, 3) := by decide +kernel
theorem dX0_clear_5 : decode cX0_clear 5 = .ok (.aload_n 0, 1) := by decide +kernel
theorem dX0_clear_6 : decode cX0_clear 6 = .ok (.iconst 0, 1) := by decide +kernel
theorem dX0_clear_7 : decode cX0_clear 7 = .ok (.putfield 31, 3) := by decide +kernel
theorem dX0_clear_10 : decode cX0_clear 10 = .ok (.aload_n 0, 1) := by decide +kernel
theorem dX0_clear_11 : decode cX0_clear 11 = .ok (.iconst 0, 1) := by decide +kernel
theorem dX0_clear_12 : decode cX0_clear 12 = .ok (.putfield 34, 3) := by decide +kernel
theorem dX0_clear_15 : decode cX0_clear 15 = .ok (.return_, 1) := by decide +kernel
theorem dX0_open_0 : decode cX0_open 0 = .ok (.aload_n 0, 1) := by decide +kernel
theorem dX0_open_1 : decode cX0_open 1 = .ok (.getfield 27, 3) := by decide +kernel
theorem dX0_open_4 : decode cX0_open 4 = .ok (.ifCond .lt 12, 3) := by decide +kernel
theorem dX0_open_7 : decode cX0_open 7 = .ok (.aload_n 0, 1) := by decide +kernel
theorem dX0_open_8 : decode cX0_open 8 = .ok (.getfield 27, 3) := by decide +kernel
theorem dX0_open_11 : decode cX0_open 11 = .ok (.bipush 30, 2) := by decide +kernel
theorem dX0_open_13 : decode cX0_open 13 = .ok (.if_icmp .lt 4, 3) := by decide +kernel
theorem dX0_open_16 : decode cX0_open 16 = .ok (.return_, 1) := by decide +kernel
theorem dX0_open_17 : decode cX0_open 17 = .ok (.aload_n 0, 1) := by decide +kernel
theorem dX0_open_18 : decode cX0_open 18 = .ok (.dup, 1) := by decide +kernel
theorem dX0_open_19 : decode cX0_open 19 = .ok (.getfield 27, 3) := by decide +kernel
theorem dX0_open_22 : decode cX0_open 22 = .ok (.iconst 1, 1) := by decide +kernel
theorem dX0_open_23 : decode cX0_open 23 = .ok (.iadd, 1) := by decide +kernel
theorem dX0_open_24 : decode cX0_open 24 = .ok (.putfield 27, 3) := by decide +kernel
theorem dX0_open_27 : decode cX0_open 27 = .ok (.aload_n 0, 1) := by decide +kernel
theorem dX0_open_28 : decode cX0_open 28 = .ok (.dup, 1) := by decide +kernel
theorem dX0_open_29 : decode cX0_open 29 = .ok (.getfield 34, 3) := by decide +kernel
theorem dX0_open_32 : decode cX0_open 32 = .ok (.iconst 1, 1) := by decide +kernel
theorem dX0_open_33 : decode cX0_open 33 = .ok (.iadd, 1) := by decide +kernel
theorem dX0_open_34 : decode cX0_open 34 = .ok (.putfield 34, 3) := by decide +kernel
theorem dX0_open_37 : decode cX0_open 37 = .ok (.aload_n 0, 1) := by decide +kernel
theorem dX0_open_38 : decode cX0_open 38 = .ok (.aload_n 0, 1) := by decide +kernel
theorem dX0_open_39 : decode cX0_open 39 = .ok (.getfield 31, 3) := by decide +kernel
theorem dX0_open_42 : decode cX0_open 42 = .ok (.aload_n 0, 1) := by decide +kernel
theorem dX0_open_43 : decode cX0_open 43 = .ok (.getfield 27, 3) := by decide +kernel
theorem dX0_open_46 : decode cX0_open 46 = .ok (.invokestatic 37, 3) := by decide +kernel
theorem dX0_open_49 : decode cX0_open 49 = .ok (.putfield 31, 3) := by decide +kernel
theorem dX0_open_52 : decode cX0_open 52 = .ok (.aload_n 0, 1) := by decide +kernel
theorem dX0_open_53 : decode cX0_open 53 = .ok (.getfield 15, 3) := by decide +kernel
theorem dX0_open_56 : decode cX0_open 56 = .ok (.aload_n 0, 1) := by decide +kernel
theorem dX0_open_57 : decode cX0_open 57 = .ok (.getfield 27, 3) := by decide +kernel
theorem dX0_open_60 : decode cX0_open 60 = .ok (.iload_n 1, 1) := by decide +kernel
theorem dX0_open_61 : decode cX0_open 61 = .ok (.iastore, 1) := by decide +kernel
theorem dX0_open_62 : decode cX0_open 62 = .ok (.aload_n 0, 1) := by decide +kernel
theorem dX0_open_63 : decode cX0_open 63 = .ok (.getfield 18, 3) := by decide +kernel
theorem dX0_open_66 : decode cX0_open 66 = .ok (.aload_n 0, 1) := by decide +kernel
theorem dX0_open_67 : decode cX0_open 67 = .ok (.getfield 27, 3) := by decide +kernel
theorem dX0_open_70 : decode cX0_open 70 = .ok (.iload_n 2, 1) := by decide +kernel
theorem dX0_open_71 : decode cX0_open 71 = .ok (.iastore, 1) := by decide +kernel
theorem dX0_open_72 : decode cX0_open 72 = .ok (.aload_n 0, 1) := by decide +kernel
theorem dX0_open_73 : decode cX0_open 73 = .ok (.getfield 21, 3) := by decide +kernel
theorem dX0_open_76 : decode cX0_open 76 = .ok (.aload_n 0, 1) := by decide +kernel
theorem dX0_open_77 : decode cX0_open 77 = .ok (.getfield 27, 3) := by decide +kernel
theorem dX0_open_80 : decode cX0_open 80 = .ok (.iload_n 3, 1) := by decide +kernel
theorem dX0_open_81 : decode cX0_open 81 = .ok (.iastore, 1) := by decide +kernel
theorem dX0_open_82 : decode cX0_open 82 = .ok (.aload_n 0, 1) := by decide +kernel
theorem dX0_open_83 : decode cX0_open 83 = .ok (.aload_n 0, 1) := by decide +kernel
theorem dX0_open_84 : decode cX0_open 84 = .ok (.aload_n 0, 1) := by decide +kernel
theorem dX0_open_85 : decode cX0_open 85 = .ok (.getfield 27, 3) := by decide +kernel
theorem dX0_open_88 : decode cX0_open 88 = .ok (.iconst 0, 1) := by decide +kernel
theorem dX0_open_89 : decode cX0_open 89 = .ok (.invokevirtual 43, 3) := by decide +kernel
theorem dX0_open_92 : decode cX0_open 92 = .ok (.iconst 0, 1) := by decide +kernel
theorem dX0_open_93 : decode cX0_open 93 = .ok (.invokevirtual 46, 3) := by decide +kernel
theorem dX0_open_96 : decode cX0_open 96 = .ok (.return_, 1) := by decide +kernel
theorem dX0_close_0 : decode cX0_close 0 = .ok (.aload_n 0, 1) := by decide +kernel
theorem dX0_close_1 : decode cX0_close 1 = .ok (.getfield 27, 3) := by decide +kernel
theorem dX0_close_4 : decode cX0_close 4 = .ok (.ifCond .le 13, 3) := by decide +kernel
theorem dX0_close_7 : decode cX0_close 7 = .ok (.aload_n 0, 1) := by decide +kernel
theorem dX0_close_8 : decode cX0_close 8 = .ok (.dup, 1) := by decide +kernel
theorem dX0_close_9 : decode cX0_close 9 = .ok (.getfield 27, 3) := by decide +kernel
theorem dX0_close_12 : decode cX0_close 12 = .ok (.iconst 1, 1) := by decide +kernel
theorem dX0_close_13 : decode cX0_close 13 = .ok (.isub, 1) := by decide +kernel
theorem dX0_close_14 : decode cX0_close 14 = .ok (.putfield 27, 3) := by decide +kernel
theorem dX0_close_17 : decode cX0_close 17 = .ok (.return_, 1) := by decide +kernel
theorem dX0_isFrame_0 : decode cX0_isFrame 0 = .ok (.iload_n 1, 1) := by decide +kernel
theorem dX0_isFrame_1 : decode cX0_isFrame 1 = .ok (.ifCond .lt 13, 3) := by decide +kernel
theorem dX0_isFrame_4 : decode cX0_isFrame 4 = .ok (.iload_n 1, 1) := by decide +kernel
theorem dX0_isFrame_5 : decode cX0_isFrame 5 = .ok (.bipush 31, 2) := by decide +kernel
theorem dX0_isFrame_7 : decode cX0_isFrame 7 = .ok (.if_icmp .ge 7, 3) := by decide +kernel
theorem dX0_isFrame_10 : decode cX0_isFrame 10 = .ok (.iconst 1, 1) := by decide +kernel
theorem dX0_isFrame_11 : decode cX0_isFrame 11 = .ok (.goto 4, 3) := by decide +kernel
theorem dX0_isFrame_14 : decode cX0_isFrame 14 = .ok (.iconst 0, 1) := by decide +kernel
theorem dX0_isFrame_15 : decode cX0_isFrame 15 = .ok (.ireturn, 1) := by decide +kernel
theorem dX0_outwards_0 : decode cX0_outwards 0 = .ok (.iload_n 1, 1) := by decide +kernel
theorem dX0_outwards_1 : decode cX0_outwards 1 = .ok (.istore_n 3, 1) := by decide +kernel
theorem dX0_outwards_2 : decode cX0_outwards 2 = .ok (.iconst 0, 1) := by decide +kernel
theorem dX0_outwards_3 : decode cX0_outwards 3 = .ok (.istore 4, 2) := by decide +kernel
theorem dX0_outwards_5 : decode cX0_outwards 5 = .ok (.iload 4, 2) := by decide +kernel
theorem dX0_outwards_7 : decode cX0_outwards 7 = .ok (.iload_n 2, 1) := by decide +kernel
theorem dX0_outwards_8 : decode cX0_outwards 8 = .ok (.if_icmp .ge 35, 3) := by decide +kernel
theorem dX0_outwards_11 : decode cX0_outwards 11 = .ok (.iload 4, 2) := by decide +kernel
theorem dX0_outwards_13 : decode cX0_outwards 13 = .ok (.bipush 10, 2) := by decide +kernel
theorem dX0_outwards_15 : decode cX0_outwards 15 = .ok (.if_icmp .ge 28, 3) := by decide +kernel
theorem dX0_outwards_18 : decode cX0_outwards 18 = .ok (.aload_n 0, 1) := by decide +kernel
theorem dX0_outwards_19 : decode cX0_outwards 19 = .ok (.iload_n 3, 1) := by decide +kernel
theorem dX0_outwards_20 : decode cX0_outwards 20 = .ok (.invokevirtual 50, 3) := by decide +kernel
theorem dX0_outwards_23 : decode cX0_outwards 23 = .ok (.ifCond .eq 12, 3) := by decide +kernel
theorem dX0_outwards_26 : decode cX0_outwards 26 = .ok (.aload_n 0, 1) := by decide +kernel
theorem dX0_outwards_27 : decode cX0_outwards 27 = .ok (.getfield 15, 3) := by decide +kernel
theorem dX0_outwards_30 : decode cX0_outwards 30 = .ok (.iload_n 3, 1) := by decide +kernel
theorem dX0_outwards_31 : decode cX0_outwards 31 = .ok (.iaload, 1) := by decide +kernel
theorem dX0_outwards_32 : decode cX0_outwards 32 = .ok (.goto 4, 3) := by decide +kernel
theorem dX0_outwards_35 : decode cX0_outwards 35 = .ok (.iconst 0, 1) := by decide +kernel
theorem dX0_outwards_36 : decode cX0_outwards 36 = .ok (.istore_n 3, 1) := by decide +kernel
theorem dX0_outwards_37 : decode cX0_outwards 37 = .ok (.iinc 4 1, 3) := by decide +kernel
theorem dX0_outwards_40 : decode cX0_outwards 40 = .ok (.goto (-35), 3) := by decide +kernel
theorem dX0_outwards_43 : decode cX0_outwards 43 = .ok (.iload_n 3, 1) := by decide +kernel
theorem dX0_outwards_44 : decode cX0_outwards 44 = .ok (.ireturn, 1) := by decide +kernel
theorem dX0_callerOf_0 : decode cX0_callerOf 0 = .ok (.aload_n 0, 1) := by decide +kernel
theorem dX0_callerOf_1 : decode cX0_callerOf 1 = .ok (.iload_n 1, 1) := by decide +kernel
theorem dX0_callerOf_2 : decode cX0_callerOf 2 = .ok (.invokevirtual 50, 3) := by decide +kernel
theorem dX0_callerOf_5 : decode cX0_callerOf 5 = .ok (.ifCond .eq 12, 3) := by decide +kernel
theorem dX0_callerOf_8 : decode cX0_callerOf 8 = .ok (.aload_n 0, 1) := by decide +kernel
theorem dX0_callerOf_9 : decode cX0_callerOf 9 = .ok (.getfield 18, 3) := by decide +kernel
theorem dX0_callerOf_12 : decode cX0_callerOf 12 = .ok (.iload_n 1, 1) := by decide +kernel
theorem dX0_callerOf_13 : decode cX0_callerOf 13 = .ok (.iaload, 1) := by decide +kernel
theorem dX0_callerOf_14 : decode cX0_callerOf 14 = .ok (.goto 4, 3) := by decide +kernel
theorem dX0_callerOf_17 : decode cX0_callerOf 17 = .ok (.iconst 0, 1) := by decide +kernel
theorem dX0_callerOf_18 : decode cX0_callerOf 18 = .ok (.ireturn, 1) := by decide +kernel
theorem dX0_returnOf_0 : decode cX0_returnOf 0 = .ok (.aload_n 0, 1) := by decide +kernel
theorem dX0_returnOf_1 : decode cX0_returnOf 1 = .ok (.iload_n 1, 1) := by decide +kernel
theorem dX0_returnOf_2 : decode cX0_returnOf 2 = .ok (.invokevirtual 50, 3) := by decide +kernel
theorem dX0_returnOf_5 : decode cX0_returnOf 5 = .ok (.ifCond .eq 12, 3) := by decide +kernel
theorem dX0_returnOf_8 : decode cX0_returnOf 8 = .ok (.aload_n 0, 1) := by decide +kernel
theorem dX0_returnOf_9 : decode cX0_returnOf 9 = .ok (.getfield 21, 3) := by decide +kernel
theorem dX0_returnOf_12 : decode cX0_returnOf 12 = .ok (.iload_n 1, 1) := by decide +kernel
theorem dX0_returnOf_13 : decode cX0_returnOf 13 = .ok (.iaload, 1) := by decide +kernel
theorem dX0_returnOf_14 : decode cX0_returnOf 14 = .ok (.goto 4, 3) := by decide +kernel
theorem dX0_returnOf_17 : decode cX0_returnOf 17 = .ok (.iconst 0, 1) := by decide +kernel
theorem dX0_returnOf_18 : decode cX0_returnOf 18 = .ok (.ireturn, 1) := by decide +kernel
theorem dX0_addressOf_0 : decode cX0_addressOf 0 = .ok (.iload_n 1, 1) := by decide +kernel
theorem dX0_addressOf_1 : decode cX0_addressOf 1 = .ok (.bipush 31, 2) := by decide +kernel
theorem dX0_addressOf_3 : decode cX0_addressOf 3 = .ok (.imul, 1) := by decide +kernel
theorem dX0_addressOf_4 : decode cX0_addressOf 4 = .ok (.iload_n 2, 1) := by decide +kernel
theorem dX0_addressOf_5 : decode cX0_addressOf 5 = .ok (.iadd, 1) := by decide +kernel
theorem dX0_addressOf_6 : decode cX0_addressOf 6 = .ok (.ireturn, 1) := by decide +kernel
theorem dX0_valueAt_0 : decode cX0_valueAt 0 = .ok (.iload_n 1, 1) := by decide +kernel
theorem dX0_valueAt_1 : decode cX0_valueAt 1 = .ok (.ifCond .lt 21, 3) := by decide +kernel
theorem dX0_valueAt_4 : decode cX0_valueAt 4 = .ok (.iload_n 1, 1) := by decide +kernel
theorem dX0_valueAt_5 : decode cX0_valueAt 5 = .ok (.aload_n 0, 1) := by decide +kernel
theorem dX0_valueAt_6 : decode cX0_valueAt 6 = .ok (.getfield 9, 3) := by decide +kernel
theorem dX0_valueAt_9 : decode cX0_valueAt 9 = .ok (.arraylength, 1) := by decide +kernel
theorem dX0_valueAt_10 : decode cX0_valueAt 10 = .ok (.if_icmp .ge 12, 3) := by decide +kernel
theorem dX0_valueAt_13 : decode cX0_valueAt 13 = .ok (.aload_n 0, 1) := by decide +kernel
theorem dX0_valueAt_14 : decode cX0_valueAt 14 = .ok (.getfield 9, 3) := by decide +kernel
theorem dX0_valueAt_17 : decode cX0_valueAt 17 = .ok (.iload_n 1, 1) := by decide +kernel
theorem dX0_valueAt_18 : decode cX0_valueAt 18 = .ok (.iaload, 1) := by decide +kernel
theorem dX0_valueAt_19 : decode cX0_valueAt 19 = .ok (.goto 4, 3) := by decide +kernel
theorem dX0_valueAt_22 : decode cX0_valueAt 22 = .ok (.iconst 0, 1) := by decide +kernel
theorem dX0_valueAt_23 : decode cX0_valueAt 23 = .ok (.ireturn, 1) := by decide +kernel
theorem dX0_setValue_0 : decode cX0_setValue 0 = .ok (.iload_n 1, 1) := by decide +kernel
theorem dX0_setValue_1 : decode cX0_setValue 1 = .ok (.ifCond .lt 19, 3) := by decide +kernel
theorem dX0_setValue_4 : decode cX0_setValue 4 = .ok (.iload_n 1, 1) := by decide +kernel
theorem dX0_setValue_5 : decode cX0_setValue 5 = .ok (.aload_n 0, 1) := by decide +kernel
theorem dX0_setValue_6 : decode cX0_setValue 6 = .ok (.getfield 9, 3) := by decide +kernel
theorem dX0_setValue_9 : decode cX0_setValue 9 = .ok (.arraylength, 1) := by decide +kernel
theorem dX0_setValue_10 : decode cX0_setValue 10 = .ok (.if_icmp .ge 10, 3) := by decide +kernel
theorem dX0_setValue_13 : decode cX0_setValue 13 = .ok (.aload_n 0, 1) := by decide +kernel
theorem dX0_setValue_14 : decode cX0_setValue 14 = .ok (.getfield 9, 3) := by decide +kernel
theorem dX0_setValue_17 : decode cX0_setValue 17 = .ok (.iload_n 1, 1) := by decide +kernel
theorem dX0_setValue_18 : decode cX0_setValue 18 = .ok (.iload_n 2, 1) := by decide +kernel
theorem dX0_setValue_19 : decode cX0_setValue 19 = .ok (.iastore, 1) := by decide +kernel
theorem dX0_setValue_20 : decode cX0_setValue 20 = .ok (.return_, 1) := by decide +kernel
theorem dX0_setTarget_0 : decode cX0_setTarget 0 = .ok (.aload_n 0, 1) := by decide +kernel
theorem dX0_setTarget_1 : decode cX0_setTarget 1 = .ok (.iload_n 1, 1) := by decide +kernel
theorem dX0_setTarget_2 : decode cX0_setTarget 2 = .ok (.invokevirtual 50, 3) := by decide +kernel
theorem dX0_setTarget_5 : decode cX0_setTarget 5 = .ok (.ifCond .eq 10, 3) := by decide +kernel
theorem dX0_setTarget_8 : decode cX0_setTarget 8 = .ok (.aload_n 0, 1) := by decide +kernel
theorem dX0_setTarget_9 : decode cX0_setTarget 9 = .ok (.getfield 24, 3) := by decide +kernel
theorem dX0_setTarget_12 : decode cX0_setTarget 12 = .ok (.iload_n 1, 1) := by decide +kernel
theorem dX0_setTarget_13 : decode cX0_setTarget 13 = .ok (.iload_n 2, 1) := by decide +kernel
theorem dX0_setTarget_14 : decode cX0_setTarget 14 = .ok (.iastore, 1) := by decide +kernel
theorem dX0_setTarget_15 : decode cX0_setTarget 15 = .ok (.return_, 1) := by decide +kernel
theorem dX0_targetOf_0 : decode cX0_targetOf 0 = .ok (.aload_n 0, 1) := by decide +kernel
theorem dX0_targetOf_1 : decode cX0_targetOf 1 = .ok (.iload_n 1, 1) := by decide +kernel
theorem dX0_targetOf_2 : decode cX0_targetOf 2 = .ok (.invokevirtual 50, 3) := by decide +kernel
theorem dX0_targetOf_5 : decode cX0_targetOf 5 = .ok (.ifCond .eq 12, 3) := by decide +kernel
theorem dX0_targetOf_8 : decode cX0_targetOf 8 = .ok (.aload_n 0, 1) := by decide +kernel
theorem dX0_targetOf_9 : decode cX0_targetOf 9 = .ok (.getfield 24, 3) := by decide +kernel
theorem dX0_targetOf_12 : decode cX0_targetOf 12 = .ok (.iload_n 1, 1) := by decide +kernel
theorem dX0_targetOf_13 : decode cX0_targetOf 13 = .ok (.iaload, 1) := by decide +kernel
theorem dX0_targetOf_14 : decode cX0_targetOf 14 = .ok (.goto 4, 3) := by decide +kernel
theorem dX0_targetOf_17 : decode cX0_targetOf 17 = .ok (.iconst 0, 1) := by decide +kernel
theorem dX0_targetOf_18 : decode cX0_targetOf 18 = .ok (.ireturn, 1) := by decide +kernel
