theorem dX4_init_0 : decode cX4_init 0 = .ok (.aload_n 0, 1) := by decide +kernel
theorem dX4_init_1 : decode cX4_init 1 = .ok (.invokespecial 3, 3) := by decide +kernel
theorem dX4_init_4 : decode cX4_init 4 = .ok (.aload_n 0, 1) := by decide +kernel
theorem dX4_init_5 : decode cX4_init 5 = .ok (.sipush 136, 3) := by decide +kernel
theorem dX4_init_8 : decode cX4_init 8 = .ok (.newarray .int, 2) := by decide +kernel
theorem dX4_init_10 : decode cX4_init 10 = .ok (.putfield 9, 3) := by decide +kernel
theorem dX4_init_13 : decode cX4_init 13 = .ok (.aload_n 0, 1) := by decide +kernel
theorem dX4_init_14 : decode cX4_init 14 = .ok (.sipush 136, 3) := by decide +kernel
theorem dX4_init_17 : decode cX4_init 17 = .ok (.newarray .int, 2) := by decide +kernel
theorem dX4_init_19 : decode cX4_init 19 = .ok (.putfield 15, 3) := by decide +kernel
theorem dX4_init_22 : decode cX4_init 22 = .ok (.aload_n 0, 1) := by decide +kernel
theorem dX4_init_23 : decode cX4_init 23 = .ok (.sipush 136, 3) := by decide +kernel
theorem dX4_init_26 : decode cX4_init 26 = .ok (.newarray .int, 2) := by decide +kernel
theorem dX4_init_28 : decode cX4_init 28 = .ok (.putfield 18, 3) := by decide +kernel
theorem dX4_init_31 : decode cX4_init 31 = .ok (.aload_n 0, 1) := by decide +kernel
theorem dX4_init_32 : decode cX4_init 32 = .ok (.sipush 136, 3) := by decide +kernel
theorem dX4_init_35 : decode cX4_init 35 = .ok (.newarray .int, 2) := by decide +kernel
theorem dX4_init_37 : decode cX4_init 37 = .ok (.putfield 21, 3) := by decide +kernel
theorem dX4_init_40 : decode cX4_init 40 = .ok (.aload_n 0, 1) := by decide +kernel
theorem dX4_init_41 : decode cX4_init 41 = .ok (.bipush 11, 2) := by decide +kernel
theorem dX4_init_43 : decode cX4_init 43 = .ok (.newarray .int, 2) := by decide +kernel
theorem dX4_init_45 : decode cX4_init 45 = .ok (.putfield 24, 3) := by decide +kernel
theorem dX4_init_48 : decode cX4_init 48 = .ok (.return_, 1) := by decide +kernel
theorem dX4_clear_0 : decode cX4_clear 0 = .ok (.aload_n 0, 1) := by decide +kernel
theorem dX4_clear_1 : decode cX4_clear 1 = .ok (.iconst 0, 1) := by decide +kernel
theorem dX4_clear_2 : decode cX4_clear 2 = .ok (.putfield 27, 3) := by decide +kernel
theorem dX4_clear_5 : decode cX4_clear 5 = .ok (.aload_n 0, 1) := by decide +kernel
theorem dX4_clear_6 : decode cX4_clear 6 = .ok (.iconst 0, 1) := by decide +kernel
theorem dX4_clear_7 : decode cX4_clear 7 = .ok (.putfield 31, 3) := by decide +kernel
theorem dX4_clear_10 : decode cX4_clear 10 = .ok (.aload_n 0, 1) := by decide +kernel
theorem dX4_clear_11 : decode cX4_clear 11 = .ok (.bipush 7, 2) := by decide +kernel
theorem dX4_clear_13 : decode cX4_clear 13 = .ok (.putfield 34, 3) := by decide +kernel
theorem dX4_clear_16 : decode cX4_clear 16 = .ok (.return_, 1) := by decide +kernel
theorem dX4_declare_0 : decode cX4_declare 0 = .ok (.iconst 1, 1) := by decide +kernel
theorem dX4_declare_1 : decode cX4_declare 1 = .ok (.istore 5, 2) := by decide +kernel
theorem dX4_declare_3 : decode cX4_declare 3 = .ok (.iload 4, 2) := by decide +kernel
theorem dX4_declare_5 : decode cX4_declare 5 = .ok (.iconst 0, 1) := by decide +kernel
theorem dX4_declare_6 : decode cX4_declare 6 = .ok (.invokestatic 37, 3) := by decide +kernel
theorem dX4_declare_9 : decode cX4_declare 9 = .ok (.istore 6, 2) := by decide +kernel
theorem dX4_declare_11 : decode cX4_declare 11 = .ok (.iload 6, 2) := by decide +kernel
theorem dX4_declare_13 : decode cX4_declare 13 = .ok (.aload_n 0, 1) := by decide +kernel
theorem dX4_declare_14 : decode cX4_declare 14 = .ok (.getfield 27, 3) := by decide +kernel
theorem dX4_declare_17 : decode cX4_declare 17 = .ok (.if_icmp .ge 31, 3) := by decide +kernel
theorem dX4_declare_20 : decode cX4_declare 20 = .ok (.iload 6, 2) := by decide +kernel
theorem dX4_declare_22 : decode cX4_declare 22 = .ok (.sipush 136, 3) := by decide +kernel
theorem dX4_declare_25 : decode cX4_declare 25 = .ok (.if_icmp .ge 23, 3) := by decide +kernel
theorem dX4_declare_28 : decode cX4_declare 28 = .ok (.aload_n 0, 1) := by decide +kernel
theorem dX4_declare_29 : decode cX4_declare 29 = .ok (.getfield 9, 3) := by decide +kernel
theorem dX4_declare_32 : decode cX4_declare 32 = .ok (.iload 6, 2) := by decide +kernel
theorem dX4_declare_34 : decode cX4_declare 34 = .ok (.iaload, 1) := by decide +kernel
theorem dX4_declare_35 : decode cX4_declare 35 = .ok (.iload_n 1, 1) := by decide +kernel
theorem dX4_declare_36 : decode cX4_declare 36 = .ok (.if_icmp .ne 6, 3) := by decide +kernel
theorem dX4_declare_39 : decode cX4_declare 39 = .ok (.iconst 0, 1) := by decide +kernel
theorem dX4_declare_40 : decode cX4_declare 40 = .ok (.istore 5, 2) := by decide +kernel
theorem dX4_declare_42 : decode cX4_declare 42 = .ok (.iinc 6 1, 3) := by decide +kernel
theorem dX4_declare_45 : decode cX4_declare 45 = .ok (.goto (-34), 3) := by decide +kernel
theorem dX4_declare_48 : decode cX4_declare 48 = .ok (.aload_n 0, 1) := by decide +kernel
theorem dX4_declare_49 : decode cX4_declare 49 = .ok (.getfield 27, 3) := by decide +kernel
theorem dX4_declare_52 : decode cX4_declare 52 = .ok (.sipush 136, 3) := by decide +kernel
theorem dX4_declare_55 : decode cX4_declare 55 = .ok (.if_icmp .ge 56, 3) := by decide +kernel
theorem dX4_declare_58 : decode cX4_declare 58 = .ok (.aload_n 0, 1) := by decide +kernel
theorem dX4_declare_59 : decode cX4_declare 59 = .ok (.getfield 9, 3) := by decide +kernel
theorem dX4_declare_62 : decode cX4_declare 62 = .ok (.aload_n 0, 1) := by decide +kernel
theorem dX4_declare_63 : decode cX4_declare 63 = .ok (.getfield 27, 3) := by decide +kernel
theorem dX4_declare_66 : decode cX4_declare 66 = .ok (.iload_n 1, 1) := by decide +kernel
theorem dX4_declare_67 : decode cX4_declare 67 = .ok (.iastore, 1) := by decide +kernel
theorem dX4_declare_68 : decode cX4_declare 68 = .ok (.aload_n 0, 1) := by decide +kernel
theorem dX4_declare_69 : decode cX4_declare 69 = .ok (.getfield 15, 3) := by decide +kernel
theorem dX4_declare_72 : decode cX4_declare 72 = .ok (.aload_n 0, 1) := by decide +kernel
theorem dX4_declare_73 : decode cX4_declare 73 = .ok (.getfield 27, 3) := by decide +kernel
theorem dX4_declare_76 : decode cX4_declare 76 = .ok (.iload_n 2, 1) := by decide +kernel
theorem dX4_declare_77 : decode cX4_declare 77 = .ok (.iastore, 1) := by decide +kernel
theorem dX4_declare_78 : decode cX4_declare 78 = .ok (.aload_n 0, 1) := by decide +kernel
theorem dX4_declare_79 : decode cX4_declare 79 = .ok (.getfield 18, 3) := by decide +kernel
theorem dX4_declare_82 : decode cX4_declare 82 = .ok (.aload_n 0, 1) := by decide +kernel
theorem dX4_declare_83 : decode cX4_declare 83 = .ok (.getfield 27, 3) := by decide +kernel
theorem dX4_declare_86 : decode cX4_declare 86 = .ok (.aload_n 0, 1) := by decide +kernel
theorem dX4_declare_87 : decode cX4_declare 87 = .ok (.getfield 31, 3) := by decide +kernel
theorem dX4_declare_90 : decode cX4_declare 90 = .ok (.iastore, 1) := by decide +kernel
theorem dX4_declare_91 : decode cX4_declare 91 = .ok (.aload_n 0, 1) := by decide +kernel
theorem dX4_declare_92 : decode cX4_declare 92 = .ok (.getfield 21, 3) := by decide +kernel
theorem dX4_declare_95 : decode cX4_declare 95 = .ok (.aload_n 0, 1) := by decide +kernel
theorem dX4_declare_96 : decode cX4_declare 96 = .ok (.getfield 27, 3) := by decide +kernel
theorem dX4_declare_99 : decode cX4_declare 99 = .ok (.iload_n 3, 1) := by decide +kernel
theorem dX4_declare_100 : decode cX4_declare 100 = .ok (.iastore, 1) := by decide +kernel
theorem dX4_declare_101 : decode cX4_declare 101 = .ok (.aload_n 0, 1) := by decide +kernel
theorem dX4_declare_102 : decode cX4_declare 102 = .ok (.dup, 1) := by decide +kernel
theorem dX4_declare_103 : decode cX4_declare 103 = .ok (.getfield 27, 3) := by decide +kernel
theorem dX4_declare_106 : decode cX4_declare 106 = .ok (.iconst 1, 1) := by decide +kernel
theorem dX4_declare_107 : decode cX4_declare 107 = .ok (.iadd, 1) := by decide +kernel
theorem dX4_declare_108 : decode cX4_declare 108 = .ok (.putfield 27, 3) := by decide +kernel
theorem dX4_declare_111 : decode cX4_declare 111 = .ok (.iload 5, 2) := by decide +kernel
theorem dX4_declare_113 : decode cX4_declare 113 = .ok (.ireturn, 1) := by decide +kernel
theorem dX4_find_0 : decode cX4_find 0 = .ok (.aload_n 0, 1) := by decide +kernel
theorem dX4_find_1 : decode cX4_find 1 = .ok (.getfield 27, 3) := by decide +kernel
theorem dX4_find_4 : decode cX4_find 4 = .ok (.sipush 136, 3) := by decide +kernel
theorem dX4_find_7 : decode cX4_find 7 = .ok (.invokestatic 43, 3) := by decide +kernel
theorem dX4_find_10 : decode cX4_find 10 = .ok (.iconst 1, 1) := by decide +kernel
theorem dX4_find_11 : decode cX4_find 11 = .ok (.isub, 1) := by decide +kernel
theorem dX4_find_12 : decode cX4_find 12 = .ok (.istore_n 2, 1) := by decide +kernel
theorem dX4_find_13 : decode cX4_find 13 = .ok (.iload_n 2, 1) := by decide +kernel
theorem dX4_find_14 : decode cX4_find 14 = .ok (.ifCond .lt 21, 3) := by decide +kernel
theorem dX4_find_17 : decode cX4_find 17 = .ok (.aload_n 0, 1) := by decide +kernel
theorem dX4_find_18 : decode cX4_find 18 = .ok (.getfield 9, 3) := by decide +kernel
theorem dX4_find_21 : decode cX4_find 21 = .ok (.iload_n 2, 1) := by decide +kernel
theorem dX4_find_22 : decode cX4_find 22 = .ok (.iaload, 1) := by decide +kernel
theorem dX4_find_23 : decode cX4_find 23 = .ok (.iload_n 1, 1) := by decide +kernel
theorem dX4_find_24 : decode cX4_find 24 = .ok (.if_icmp .ne 5, 3) := by decide +kernel
theorem dX4_find_27 : decode cX4_find 27 = .ok (.iload_n 2, 1) := by decide +kernel
theorem dX4_find_28 : decode cX4_find 28 = .ok (.ireturn, 1) := by decide +kernel
theorem dX4_find_29 : decode cX4_find 29 = .ok (.iinc 2 (-1), 3) := by decide +kernel
theorem dX4_find_32 : decode cX4_find 32 = .ok (.goto (-19), 3) := by decide +kernel
theorem dX4_find_35 : decode cX4_find 35 = .ok (.iconst (-1), 1) := by decide +kernel
theorem dX4_find_36 : decode cX4_find 36 = .ok (.ireturn, 1) := by decide +kernel
theorem dX4_isEntry_0 : decode cX4_isEntry 0 = .ok (.iload_n 1, 1) := by decide +kernel
theorem dX4_isEntry_1 : decode cX4_isEntry 1 = .ok (.ifCond .lt 22, 3) := by decide +kernel
theorem dX4_isEntry_4 : decode cX4_isEntry 4 = .ok (.iload_n 1, 1) := by decide +kernel
theorem dX4_isEntry_5 : decode cX4_isEntry 5 = .ok (.aload_n 0, 1) := by decide +kernel
theorem dX4_isEntry_6 : decode cX4_isEntry 6 = .ok (.getfield 27, 3) := by decide +kernel
theorem dX4_isEntry_9 : decode cX4_isEntry 9 = .ok (.if_icmp .ge 14, 3) := by decide +kernel
theorem dX4_isEntry_12 : decode cX4_isEntry 12 = .ok (.iload_n 1, 1) := by decide +kernel
theorem dX4_isEntry_13 : decode cX4_isEntry 13 = .ok (.sipush 136, 3) := by decide +kernel
theorem dX4_isEntry_16 : decode cX4_isEntry 16 = .ok (.if_icmp .ge 7, 3) := by decide +kernel
theorem dX4_isEntry_19 : decode cX4_isEntry 19 = .ok (.iconst 1, 1) := by decide +kernel
theorem dX4_isEntry_20 : decode cX4_isEntry 20 = .ok (.goto 4, 3) := by decide +kernel
theorem dX4_isEntry_23 : decode cX4_isEntry 23 = .ok (.iconst 0, 1) := by decide +kernel
theorem dX4_isEntry_24 : decode cX4_isEntry 24 = .ok (.ireturn, 1) := by decide +kernel
theorem dX4_kindOf_0 : decode cX4_kindOf 0 = .ok (.aload_n 0, 1) := by decide +kernel
theorem dX4_kindOf_1 : decode cX4_kindOf 1 = .ok (.iload_n 1, 1) := by decide +kernel
theorem dX4_kindOf_2 : decode cX4_kindOf 2 = .ok (.invokevirtual 46, 3) := by decide +kernel
theorem dX4_kindOf_5 : decode cX4_kindOf 5 = .ok (.ifCond .eq 12, 3) := by decide +kernel
theorem dX4_kindOf_8 : decode cX4_kindOf 8 = .ok (.aload_n 0, 1) := by decide +kernel
theorem dX4_kindOf_9 : decode cX4_kindOf 9 = .ok (.getfield 15, 3) := by decide +kernel
theorem dX4_kindOf_12 : decode cX4_kindOf 12 = .ok (.iload_n 1, 1) := by decide +kernel
theorem dX4_kindOf_13 : decode cX4_kindOf 13 = .ok (.iaload, 1) := by decide +kernel
theorem dX4_kindOf_14 : decode cX4_kindOf 14 = .ok (.goto 4, 3) := by decide +kernel
theorem dX4_kindOf_17 : decode cX4_kindOf 17 = .ok (.iconst 0, 1) := by decide +kernel
theorem dX4_kindOf_18 : decode cX4_kindOf 18 = .ok (.ireturn, 1) := by decide +kernel
theorem dX4_slotOf_0 : decode cX4_slotOf 0 = .ok (.aload_n 0, 1) := by decide +kernel
theorem dX4_slotOf_1 : decode cX4_slotOf 1 = .ok (.iload_n 1, 1) := by decide +kernel
theorem dX4_slotOf_2 : decode cX4_slotOf 2 = .ok (.invokevirtual 46, 3) := by decide +kernel
theorem dX4_slotOf_5 : decode cX4_slotOf 5 = .ok (.ifCond .eq 12, 3) := by decide +kernel
theorem dX4_slotOf_8 : decode cX4_slotOf 8 = .ok (.aload_n 0, 1) := by decide +kernel
theorem dX4_slotOf_9 : decode cX4_slotOf 9 = .ok (.getfield 21, 3) := by decide +kernel
theorem dX4_slotOf_12 : decode cX4_slotOf 12 = .ok (.iload_n 1, 1) := by decide +kernel
theorem dX4_slotOf_13 : decode cX4_slotOf 13 = .ok (.iaload, 1) := by decide +kernel
theorem dX4_slotOf_14 : decode cX4_slotOf 14 = .ok (.goto 4, 3) := by decide +kernel
theorem dX4_slotOf_17 : decode cX4_slotOf 17 = .ok (.iconst 0, 1) := by decide +kernel
theorem dX4_slotOf_18 : decode cX4_slotOf 18 = .ok (.ireturn, 1) := by decide +kernel
theorem dX4_hopsTo_0 : decode cX4_hopsTo 0 = .ok (.aload_n 0, 1) := by decide +kernel
theorem dX4_hopsTo_1 : decode cX4_hopsTo 1 = .ok (.iload_n 1, 1) := by decide +kernel
theorem dX4_hopsTo_2 : decode cX4_hopsTo 2 = .ok (.invokevirtual 46, 3) := by decide +kernel
theorem dX4_hopsTo_5 : decode cX4_hopsTo 5 = .ok (.ifCond .eq 17, 3) := by decide +kernel
theorem dX4_hopsTo_8 : decode cX4_hopsTo 8 = .ok (.aload_n 0, 1) := by decide +kernel
theorem dX4_hopsTo_9 : decode cX4_hopsTo 9 = .ok (.getfield 31, 3) := by decide +kernel
theorem dX4_hopsTo_12 : decode cX4_hopsTo 12 = .ok (.aload_n 0, 1) := by decide +kernel
theorem dX4_hopsTo_13 : decode cX4_hopsTo 13 = .ok (.getfield 18, 3) := by decide +kernel
theorem dX4_hopsTo_16 : decode cX4_hopsTo 16 = .ok (.iload_n 1, 1) := by decide +kernel
theorem dX4_hopsTo_17 : decode cX4_hopsTo 17 = .ok (.iaload, 1) := by decide +kernel
theorem dX4_hopsTo_18 : decode cX4_hopsTo 18 = .ok (.isub, 1) := by decide +kernel
theorem dX4_hopsTo_19 : decode cX4_hopsTo 19 = .ok (.goto 4, 3) := by decide +kernel
theorem dX4_hopsTo_22 : decode cX4_hopsTo 22 = .ok (.iconst 0, 1) := by decide +kernel
theorem dX4_hopsTo_23 : decode cX4_hopsTo 23 = .ok (.ireturn, 1) := by decide +kernel
theorem dX4_enterBody_0 : decode cX4_enterBody 0 = .ok (.aload_n 0, 1) := by decide +kernel
theorem dX4_enterBody_1 : decode cX4_enterBody 1 = .ok (.dup, 1) := by decide +kernel
theorem dX4_enterBody_2 : decode cX4_enterBody 2 = .ok (.getfield 31, 3) := by decide +kernel
theorem dX4_enterBody_5 : decode cX4_enterBody 5 = .ok (.iconst 1, 1) := by decide +kernel
theorem dX4_enterBody_6 : decode cX4_enterBody 6 = .ok (.iadd, 1) := by decide +kernel
theorem dX4_enterBody_7 : decode cX4_enterBody 7 = .ok (.putfield 31, 3) := by decide +kernel
theorem dX4_enterBody_10 : decode cX4_enterBody 10 = .ok (.aload_n 0, 1) := by decide +kernel
theorem dX4_enterBody_11 : decode cX4_enterBody 11 = .ok (.getfield 31, 3) := by decide +kernel
theorem dX4_enterBody_14 : decode cX4_enterBody 14 = .ok (.ifCond .lt 22, 3) := by decide +kernel
theorem dX4_enterBody_17 : decode cX4_enterBody 17 = .ok (.aload_n 0, 1) := by decide +kernel
theorem dX4_enterBody_18 : decode cX4_enterBody 18 = .ok (.getfield 31, 3) := by decide +kernel
theorem dX4_enterBody_21 : decode cX4_enterBody 21 = .ok (.bipush 10, 2) := by decide +kernel
theorem dX4_enterBody_23 : decode cX4_enterBody 23 = .ok (.if_icmp .gt 13, 3) := by decide +kernel
theorem dX4_enterBody_26 : decode cX4_enterBody 26 = .ok (.aload_n 0, 1) := by decide +kernel
theorem dX4_enterBody_27 : decode cX4_enterBody 27 = .ok (.getfield 24, 3) := by decide +kernel
theorem dX4_enterBody_30 : decode cX4_enterBody 30 = .ok (.aload_n 0, 1) := by decide +kernel
theorem dX4_enterBody_31 : decode cX4_enterBody 31 = .ok (.getfield 31, 3) := by decide +kernel
theorem dX4_enterBody_34 : decode cX4_enterBody 34 = .ok (.iload_n 1, 1) := by decide +kernel
theorem dX4_enterBody_35 : decode cX4_enterBody 35 = .ok (.iastore, 1) := by decide +kernel
theorem dX4_enterBody_36 : decode cX4_enterBody 36 = .ok (.aload_n 0, 1) := by decide +kernel
theorem dX4_enterBody_37 : decode cX4_enterBody 37 = .ok (.bipush 7, 2) := by decide +kernel
theorem dX4_enterBody_39 : decode cX4_enterBody 39 = .ok (.putfield 34, 3) := by decide +kernel
theorem dX4_enterBody_42 : decode cX4_enterBody 42 = .ok (.return_, 1) := by decide +kernel
theorem dX4_isAroundHere_0 : decode cX4_isAroundHere 0 = .ok (.aload_n 0, 1) := by decide +kernel
theorem dX4_isAroundHere_1 : decode cX4_isAroundHere 1 = .ok (.iload_n 1, 1) := by decide +kernel
theorem dX4_isAroundHere_2 : decode cX4_isAroundHere 2 = .ok (.invokevirtual 46, 3) := by decide +kernel
theorem dX4_isAroundHere_5 : decode cX4_isAroundHere 5 = .ok (.ifCond .eq 13, 3) := by decide +kernel
theorem dX4_isAroundHere_8 : decode cX4_isAroundHere 8 = .ok (.aload_n 0, 1) := by decide +kernel
theorem dX4_isAroundHere_9 : decode cX4_isAroundHere 9 = .ok (.getfield 15, 3) := by decide +kernel
theorem dX4_isAroundHere_12 : decode cX4_isAroundHere 12 = .ok (.iload_n 1, 1) := by decide +kernel
theorem dX4_isAroundHere_13 : decode cX4_isAroundHere 13 = .ok (.iaload, 1) := by decide +kernel
theorem dX4_isAroundHere_14 : decode cX4_isAroundHere 14 = .ok (.iconst 2, 1) := by decide +kernel
theorem dX4_isAroundHere_15 : decode cX4_isAroundHere 15 = .ok (.if_icmp .eq 5, 3) := by decide +kernel
theorem dX4_isAroundHere_18 : decode cX4_isAroundHere 18 = .ok (.iconst 0, 1) := by decide +kernel
theorem dX4_isAroundHere_19 : decode cX4_isAroundHere 19 = .ok (.ireturn, 1) := by decide +kernel
theorem dX4_isAroundHere_20 : decode cX4_isAroundHere 20 = .ok (.aload_n 0, 1) := by decide +kernel
theorem dX4_isAroundHere_21 : decode cX4_isAroundHere 21 = .ok (.getfield 18, 3) := by decide +kernel
theorem dX4_isAroundHere_24 : decode cX4_isAroundHere 24 = .ok (.iload_n 1, 1) := by decide +kernel
theorem dX4_isAroundHere_25 : decode cX4_isAroundHere 25 = .ok (.iaload, 1) := by decide +kernel
theorem dX4_isAroundHere_26 : decode cX4_isAroundHere 26 = .ok (.iconst 1, 1) := by decide +kernel
theorem dX4_isAroundHere_27 : decode cX4_isAroundHere 27 = .ok (.iadd, 1) := by decide +kernel
theorem dX4_isAroundHere_28 : decode cX4_isAroundHere 28 = .ok (.istore_n 2, 1) := by decide +kernel
theorem dX4_isAroundHere_29 : decode cX4_isAroundHere 29 = .ok (.iload_n 2, 1) := by decide +kernel
theorem dX4_isAroundHere_30 : decode cX4_isAroundHere 30 = .ok (.iconst 1, 1) := by decide +kernel
theorem dX4_isAroundHere_31 : decode cX4_isAroundHere 31 = .ok (.if_icmp .lt 36, 3) := by decide +kernel
theorem dX4_isAroundHere_34 : decode cX4_isAroundHere 34 = .ok (.iload_n 2, 1) := by decide +kernel
theorem dX4_isAroundHere_35 : decode cX4_isAroundHere 35 = .ok (.aload_n 0, 1) := by decide +kernel
theorem dX4_isAroundHere_36 : decode cX4_isAroundHere 36 = .ok (.getfield 31, 3) := by decide +kernel
theorem dX4_isAroundHere_39 : decode cX4_isAroundHere 39 = .ok (.if_icmp .gt 28, 3) := by decide +kernel
theorem dX4_isAroundHere_42 : decode cX4_isAroundHere 42 = .ok (.iload_n 2, 1) := by decide +kernel
theorem dX4_isAroundHere_43 : decode cX4_isAroundHere 43 = .ok (.bipush 10, 2) := by decide +kernel
theorem dX4_isAroundHere_45 : decode cX4_isAroundHere 45 = .ok (.if_icmp .gt 22, 3) := by decide +kernel
theorem dX4_isAroundHere_48 : decode cX4_isAroundHere 48 = .ok (.aload_n 0, 1) := by decide +kernel
theorem dX4_isAroundHere_49 : decode cX4_isAroundHere 49 = .ok (.getfield 24, 3) := by decide +kernel
theorem dX4_isAroundHere_52 : decode cX4_isAroundHere 52 = .ok (.iload_n 2, 1) := by decide +kernel
theorem dX4_isAroundHere_53 : decode cX4_isAroundHere 53 = .ok (.iaload, 1) := by decide +kernel
theorem dX4_isAroundHere_54 : decode cX4_isAroundHere 54 = .ok (.aload_n 0, 1) := by decide +kernel
theorem dX4_isAroundHere_55 : decode cX4_isAroundHere 55 = .ok (.getfield 21, 3) := by decide +kernel
theorem dX4_isAroundHere_58 : decode cX4_isAroundHere 58 = .ok (.iload_n 1, 1) := by decide +kernel
theorem dX4_isAroundHere_59 : decode cX4_isAroundHere 59 = .ok (.iaload, 1) := by decide +kernel
theorem dX4_isAroundHere_60 : decode cX4_isAroundHere 60 = .ok (.if_icmp .ne 7, 3) := by decide +kernel
theorem dX4_isAroundHere_63 : decode cX4_isAroundHere 63 = .ok (.iconst 1, 1) := by decide +kernel
theorem dX4_isAroundHere_64 : decode cX4_isAroundHere 64 = .ok (.goto 4, 3) := by decide +kernel
theorem dX4_isAroundHere_67 : decode cX4_isAroundHere 67 = .ok (.iconst 0, 1) := by decide +kernel
theorem dX4_isAroundHere_68 : decode cX4_isAroundHere 68 = .ok (.ireturn, 1) := by decide +kernel
