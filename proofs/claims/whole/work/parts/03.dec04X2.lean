theorem dX2_init_0 : decode cX2_init 0 = .ok (.aload_n 0, 1) := by decide +kernel
theorem dX2_init_1 : decode cX2_init 1 = .ok (.invokespecial 3, 3) := by decide +kernel
theorem dX2_init_4 : decode cX2_init 4 = .ok (.aload_n 0, 1) := by decide +kernel
theorem dX2_init_5 : decode cX2_init 5 = .ok (.sipush 488, 3) := by decide +kernel
theorem dX2_init_8 : decode cX2_init 8 = .ok (.newarray .int, 2) := by decide +kernel
theorem dX2_init_10 : decode cX2_init 10 = .ok (.putfield 9, 3) := by decide +kernel
theorem dX2_init_13 : decode cX2_init 13 = .ok (.aload_n 0, 1) := by decide +kernel
theorem dX2_init_14 : decode cX2_init 14 = .ok (.sipush 488, 3) := by decide +kernel
theorem dX2_init_17 : decode cX2_init 17 = .ok (.newarray .int, 2) := by decide +kernel
theorem dX2_init_19 : decode cX2_init 19 = .ok (.putfield 15, 3) := by decide +kernel
theorem dX2_init_22 : decode cX2_init 22 = .ok (.aload_n 0, 1) := by decide +kernel
theorem dX2_init_23 : decode cX2_init 23 = .ok (.sipush 488, 3) := by decide +kernel
theorem dX2_init_26 : decode cX2_init 26 = .ok (.newarray .int, 2) := by decide +kernel
theorem dX2_init_28 : decode cX2_init 28 = .ok (.putfield 18, 3) := by decide +kernel
theorem dX2_init_31 : decode cX2_init 31 = .ok (.aload_n 0, 1) := by decide +kernel
theorem dX2_init_32 : decode cX2_init 32 = .ok (.bipush 16, 2) := by decide +kernel
theorem dX2_init_34 : decode cX2_init 34 = .ok (.newarray .int, 2) := by decide +kernel
theorem dX2_init_36 : decode cX2_init 36 = .ok (.putfield 21, 3) := by decide +kernel
theorem dX2_init_39 : decode cX2_init 39 = .ok (.aload_n 0, 1) := by decide +kernel
theorem dX2_init_40 : decode cX2_init 40 = .ok (.bipush 16, 2) := by decide +kernel
theorem dX2_init_42 : decode cX2_init 42 = .ok (.newarray .int, 2) := by decide +kernel
theorem dX2_init_44 : decode cX2_init 44 = .ok (.putfield 24, 3) := by decide +kernel
theorem dX2_init_47 : decode cX2_init 47 = .ok (.return_, 1) := by decide +kernel
theorem dX2_clear_0 : decode cX2_clear 0 = .ok (.aload_n 0, 1) := by decide +kernel
theorem dX2_clear_1 : decode cX2_clear 1 = .ok (.iconst 0, 1) := by decide +kernel
theorem dX2_clear_2 : decode cX2_clear 2 = .ok (.putfield 27, 3) := by decide +kernel
theorem dX2_clear_5 : decode cX2_clear 5 = .ok (.aload_n 0, 1) := by decide +kernel
theorem dX2_clear_6 : decode cX2_clear 6 = .ok (.iconst 0, 1) := by decide +kernel
theorem dX2_clear_7 : decode cX2_clear 7 = .ok (.putfield 31, 3) := by decide +kernel
theorem dX2_clear_10 : decode cX2_clear 10 = .ok (.aload_n 0, 1) := by decide +kernel
theorem dX2_clear_11 : decode cX2_clear 11 = .ok (.iconst 0, 1) := by decide +kernel
theorem dX2_clear_12 : decode cX2_clear 12 = .ok (.putfield 34, 3) := by decide +kernel
theorem dX2_clear_15 : decode cX2_clear 15 = .ok (.aload_n 0, 1) := by decide +kernel
theorem dX2_clear_16 : decode cX2_clear 16 = .ok (.iconst 0, 1) := by decide +kernel
theorem dX2_clear_17 : decode cX2_clear 17 = .ok (.putfield 37, 3) := by decide +kernel
theorem dX2_clear_20 : decode cX2_clear 20 = .ok (.aload_n 0, 1) := by decide +kernel
theorem dX2_clear_21 : decode cX2_clear 21 = .ok (.iconst 0, 1) := by decide +kernel
theorem dX2_clear_22 : decode cX2_clear 22 = .ok (.putfield 40, 3) := by decide +kernel
theorem dX2_clear_25 : decode cX2_clear 25 = .ok (.return_, 1) := by decide +kernel
theorem dX2_add_0 : decode cX2_add 0 = .ok (.aload_n 0, 1) := by decide +kernel
theorem dX2_add_1 : decode cX2_add 1 = .ok (.getfield 27, 3) := by decide +kernel
theorem dX2_add_4 : decode cX2_add 4 = .ok (.istore 4, 2) := by decide +kernel
theorem dX2_add_6 : decode cX2_add 6 = .ok (.iload 4, 2) := by decide +kernel
theorem dX2_add_8 : decode cX2_add 8 = .ok (.sipush 488, 3) := by decide +kernel
theorem dX2_add_11 : decode cX2_add 11 = .ok (.if_icmp .ge 37, 3) := by decide +kernel
theorem dX2_add_14 : decode cX2_add 14 = .ok (.aload_n 0, 1) := by decide +kernel
theorem dX2_add_15 : decode cX2_add 15 = .ok (.getfield 9, 3) := by decide +kernel
theorem dX2_add_18 : decode cX2_add 18 = .ok (.iload 4, 2) := by decide +kernel
theorem dX2_add_20 : decode cX2_add 20 = .ok (.iload_n 1, 1) := by decide +kernel
theorem dX2_add_21 : decode cX2_add 21 = .ok (.iastore, 1) := by decide +kernel
theorem dX2_add_22 : decode cX2_add 22 = .ok (.aload_n 0, 1) := by decide +kernel
theorem dX2_add_23 : decode cX2_add 23 = .ok (.getfield 15, 3) := by decide +kernel
theorem dX2_add_26 : decode cX2_add 26 = .ok (.iload 4, 2) := by decide +kernel
theorem dX2_add_28 : decode cX2_add 28 = .ok (.iload_n 2, 1) := by decide +kernel
theorem dX2_add_29 : decode cX2_add 29 = .ok (.iastore, 1) := by decide +kernel
theorem dX2_add_30 : decode cX2_add 30 = .ok (.aload_n 0, 1) := by decide +kernel
theorem dX2_add_31 : decode cX2_add 31 = .ok (.getfield 18, 3) := by decide +kernel
theorem dX2_add_34 : decode cX2_add 34 = .ok (.iload 4, 2) := by decide +kernel
theorem dX2_add_36 : decode cX2_add 36 = .ok (.iload_n 3, 1) := by decide +kernel
theorem dX2_add_37 : decode cX2_add 37 = .ok (.iastore, 1) := by decide +kernel
theorem dX2_add_38 : decode cX2_add 38 = .ok (.aload_n 0, 1) := by decide +kernel
theorem dX2_add_39 : decode cX2_add 39 = .ok (.dup, 1) := by decide +kernel
theorem dX2_add_40 : decode cX2_add 40 = .ok (.getfield 27, 3) := by decide +kernel
theorem dX2_add_43 : decode cX2_add 43 = .ok (.iconst 1, 1) := by decide +kernel
theorem dX2_add_44 : decode cX2_add 44 = .ok (.iadd, 1) := by decide +kernel
theorem dX2_add_45 : decode cX2_add 45 = .ok (.putfield 27, 3) := by decide +kernel
theorem dX2_add_48 : decode cX2_add 48 = .ok (.iload 4, 2) := by decide +kernel
theorem dX2_add_50 : decode cX2_add 50 = .ok (.ireturn, 1) := by decide +kernel
theorem dX2_setFirst_0 : decode cX2_setFirst 0 = .ok (.aload_n 0, 1) := by decide +kernel
theorem dX2_setFirst_1 : decode cX2_setFirst 1 = .ok (.iload_n 1, 1) := by decide +kernel
theorem dX2_setFirst_2 : decode cX2_setFirst 2 = .ok (.invokevirtual 43, 3) := by decide +kernel
theorem dX2_setFirst_5 : decode cX2_setFirst 5 = .ok (.ifCond .eq 10, 3) := by decide +kernel
theorem dX2_setFirst_8 : decode cX2_setFirst 8 = .ok (.aload_n 0, 1) := by decide +kernel
theorem dX2_setFirst_9 : decode cX2_setFirst 9 = .ok (.getfield 15, 3) := by decide +kernel
theorem dX2_setFirst_12 : decode cX2_setFirst 12 = .ok (.iload_n 1, 1) := by decide +kernel
theorem dX2_setFirst_13 : decode cX2_setFirst 13 = .ok (.iload_n 2, 1) := by decide +kernel
theorem dX2_setFirst_14 : decode cX2_setFirst 14 = .ok (.iastore, 1) := by decide +kernel
theorem dX2_setFirst_15 : decode cX2_setFirst 15 = .ok (.return_, 1) := by decide +kernel
theorem dX2_setSecond_0 : decode cX2_setSecond 0 = .ok (.aload_n 0, 1) := by decide +kernel
theorem dX2_setSecond_1 : decode cX2_setSecond 1 = .ok (.iload_n 1, 1) := by decide +kernel
theorem dX2_setSecond_2 : decode cX2_setSecond 2 = .ok (.invokevirtual 43, 3) := by decide +kernel
theorem dX2_setSecond_5 : decode cX2_setSecond 5 = .ok (.ifCond .eq 10, 3) := by decide +kernel
theorem dX2_setSecond_8 : decode cX2_setSecond 8 = .ok (.aload_n 0, 1) := by decide +kernel
theorem dX2_setSecond_9 : decode cX2_setSecond 9 = .ok (.getfield 18, 3) := by decide +kernel
theorem dX2_setSecond_12 : decode cX2_setSecond 12 = .ok (.iload_n 1, 1) := by decide +kernel
theorem dX2_setSecond_13 : decode cX2_setSecond 13 = .ok (.iload_n 2, 1) := by decide +kernel
theorem dX2_setSecond_14 : decode cX2_setSecond 14 = .ok (.iastore, 1) := by decide +kernel
theorem dX2_setSecond_15 : decode cX2_setSecond 15 = .ok (.return_, 1) := by decide +kernel
theorem dX2_isPlace_0 : decode cX2_isPlace 0 = .ok (.iload_n 1, 1) := by decide +kernel
theorem dX2_isPlace_1 : decode cX2_isPlace 1 = .ok (.ifCond .lt 22, 3) := by decide +kernel
theorem dX2_isPlace_4 : decode cX2_isPlace 4 = .ok (.iload_n 1, 1) := by decide +kernel
theorem dX2_isPlace_5 : decode cX2_isPlace 5 = .ok (.aload_n 0, 1) := by decide +kernel
theorem dX2_isPlace_6 : decode cX2_isPlace 6 = .ok (.getfield 27, 3) := by decide +kernel
theorem dX2_isPlace_9 : decode cX2_isPlace 9 = .ok (.if_icmp .ge 14, 3) := by decide +kernel
theorem dX2_isPlace_12 : decode cX2_isPlace 12 = .ok (.iload_n 1, 1) := by decide +kernel
theorem dX2_isPlace_13 : decode cX2_isPlace 13 = .ok (.sipush 488, 3) := by decide +kernel
theorem dX2_isPlace_16 : decode cX2_isPlace 16 = .ok (.if_icmp .ge 7, 3) := by decide +kernel
theorem dX2_isPlace_19 : decode cX2_isPlace 19 = .ok (.iconst 1, 1) := by decide +kernel
theorem dX2_isPlace_20 : decode cX2_isPlace 20 = .ok (.goto 4, 3) := by decide +kernel
theorem dX2_isPlace_23 : decode cX2_isPlace 23 = .ok (.iconst 0, 1) := by decide +kernel
theorem dX2_isPlace_24 : decode cX2_isPlace 24 = .ok (.ireturn, 1) := by decide +kernel
theorem dX2_opAt_0 : decode cX2_opAt 0 = .ok (.aload_n 0, 1) := by decide +kernel
theorem dX2_opAt_1 : decode cX2_opAt 1 = .ok (.iload_n 1, 1) := by decide +kernel
theorem dX2_opAt_2 : decode cX2_opAt 2 = .ok (.invokevirtual 43, 3) := by decide +kernel
theorem dX2_opAt_5 : decode cX2_opAt 5 = .ok (.ifCond .eq 12, 3) := by decide +kernel
theorem dX2_opAt_8 : decode cX2_opAt 8 = .ok (.aload_n 0, 1) := by decide +kernel
theorem dX2_opAt_9 : decode cX2_opAt 9 = .ok (.getfield 9, 3) := by decide +kernel
theorem dX2_opAt_12 : decode cX2_opAt 12 = .ok (.iload_n 1, 1) := by decide +kernel
theorem dX2_opAt_13 : decode cX2_opAt 13 = .ok (.iaload, 1) := by decide +kernel
theorem dX2_opAt_14 : decode cX2_opAt 14 = .ok (.goto 4, 3) := by decide +kernel
theorem dX2_opAt_17 : decode cX2_opAt 17 = .ok (.iconst 0, 1) := by decide +kernel
theorem dX2_opAt_18 : decode cX2_opAt 18 = .ok (.ireturn, 1) := by decide +kernel
theorem dX2_firstAt_0 : decode cX2_firstAt 0 = .ok (.aload_n 0, 1) := by decide +kernel
theorem dX2_firstAt_1 : decode cX2_firstAt 1 = .ok (.iload_n 1, 1) := by decide +kernel
theorem dX2_firstAt_2 : decode cX2_firstAt 2 = .ok (.invokevirtual 43, 3) := by decide +kernel
theorem dX2_firstAt_5 : decode cX2_firstAt 5 = .ok (.ifCond .eq 12, 3) := by decide +kernel
theorem dX2_firstAt_8 : decode cX2_firstAt 8 = .ok (.aload_n 0, 1) := by decide +kernel
theorem dX2_firstAt_9 : decode cX2_firstAt 9 = .ok (.getfield 15, 3) := by decide +kernel
theorem dX2_firstAt_12 : decode cX2_firstAt 12 = .ok (.iload_n 1, 1) := by decide +kernel
theorem dX2_firstAt_13 : decode cX2_firstAt 13 = .ok (.iaload, 1) := by decide +kernel
theorem dX2_firstAt_14 : decode cX2_firstAt 14 = .ok (.goto 4, 3) := by decide +kernel
theorem dX2_firstAt_17 : decode cX2_firstAt 17 = .ok (.iconst 0, 1) := by decide +kernel
theorem dX2_firstAt_18 : decode cX2_firstAt 18 = .ok (.ireturn, 1) := by decide +kernel
theorem dX2_secondAt_0 : decode cX2_secondAt 0 = .ok (.aload_n 0, 1) := by decide +kernel
theorem dX2_secondAt_1 : decode cX2_secondAt 1 = .ok (.iload_n 1, 1) := by decide +kernel
theorem dX2_secondAt_2 : decode cX2_secondAt 2 = .ok (.invokevirtual 43, 3) := by decide +kernel
theorem dX2_secondAt_5 : decode cX2_secondAt 5 = .ok (.ifCond .eq 12, 3) := by decide +kernel
theorem dX2_secondAt_8 : decode cX2_secondAt 8 = .ok (.aload_n 0, 1) := by decide +kernel
theorem dX2_secondAt_9 : decode cX2_secondAt 9 = .ok (.getfield 18, 3) := by decide +kernel
theorem dX2_secondAt_12 : decode cX2_secondAt 12 = .ok (.iload_n 1, 1) := by decide +kernel
theorem dX2_secondAt_13 : decode cX2_secondAt 13 = .ok (.iaload, 1) := by decide +kernel
theorem dX2_secondAt_14 : decode cX2_secondAt 14 = .ok (.goto 4, 3) := by decide +kernel
theorem dX2_secondAt_17 : decode cX2_secondAt 17 = .ok (.iconst 0, 1) := by decide +kernel
theorem dX2_secondAt_18 : decode cX2_secondAt 18 = .ok (.ireturn, 1) := by decide +kernel
theorem dX2_isActual_0 : decode cX2_isActual 0 = .ok (.aload_n 0, 1) := by decide +kernel
theorem dX2_isActual_1 : decode cX2_isActual 1 = .ok (.iload_n 1, 1) := by decide +kernel
theorem dX2_isActual_2 : decode cX2_isActual 2 = .ok (.invokevirtual 43, 3) := by decide +kernel
theorem dX2_isActual_5 : decode cX2_isActual 5 = .ok (.ifCond .eq 29, 3) := by decide +kernel
theorem dX2_isActual_8 : decode cX2_isActual 8 = .ok (.aload_n 0, 1) := by decide +kernel
theorem dX2_isActual_9 : decode cX2_isActual 9 = .ok (.getfield 9, 3) := by decide +kernel
theorem dX2_isActual_12 : decode cX2_isActual 12 = .ok (.iload_n 1, 1) := by decide +kernel
theorem dX2_isActual_13 : decode cX2_isActual 13 = .ok (.iaload, 1) := by decide +kernel
theorem dX2_isActual_14 : decode cX2_isActual 14 = .ok (.bipush 23, 2) := by decide +kernel
theorem dX2_isActual_16 : decode cX2_isActual 16 = .ok (.if_icmp .eq 14, 3) := by decide +kernel
theorem dX2_isActual_19 : decode cX2_isActual 19 = .ok (.aload_n 0, 1) := by decide +kernel
theorem dX2_isActual_20 : decode cX2_isActual 20 = .ok (.getfield 9, 3) := by decide +kernel
theorem dX2_isActual_23 : decode cX2_isActual 23 = .ok (.iload_n 1, 1) := by decide +kernel
theorem dX2_isActual_24 : decode cX2_isActual 24 = .ok (.iaload, 1) := by decide +kernel
theorem dX2_isActual_25 : decode cX2_isActual 25 = .ok (.bipush 24, 2) := by decide +kernel
theorem dX2_isActual_27 : decode cX2_isActual 27 = .ok (.if_icmp .ne 7, 3) := by decide +kernel
theorem dX2_isActual_30 : decode cX2_isActual 30 = .ok (.iconst 1, 1) := by decide +kernel
theorem dX2_isActual_31 : decode cX2_isActual 31 = .ok (.goto 4, 3) := by decide +kernel
theorem dX2_isActual_34 : decode cX2_isActual 34 = .ok (.iconst 0, 1) := by decide +kernel
theorem dX2_isActual_35 : decode cX2_isActual 35 = .ok (.ireturn, 1) := by decide +kernel
theorem dX2_addProcedure_0 : decode cX2_addProcedure 0 = .ok (.aload_n 0, 1) := by decide +kernel
theorem dX2_addProcedure_1 : decode cX2_addProcedure 1 = .ok (.getfield 31, 3) := by decide +kernel
theorem dX2_addProcedure_4 : decode cX2_addProcedure 4 = .ok (.istore_n 1, 1) := by decide +kernel
theorem dX2_addProcedure_5 : decode cX2_addProcedure 5 = .ok (.iload_n 1, 1) := by decide +kernel
theorem dX2_addProcedure_6 : decode cX2_addProcedure 6 = .ok (.bipush 16, 2) := by decide +kernel
theorem dX2_addProcedure_8 : decode cX2_addProcedure 8 = .ok (.if_icmp .ge 30, 3) := by decide +kernel
theorem dX2_addProcedure_11 : decode cX2_addProcedure 11 = .ok (.aload_n 0, 1) := by decide +kernel
theorem dX2_addProcedure_12 : decode cX2_addProcedure 12 = .ok (.getfield 21, 3) := by decide +kernel
theorem dX2_addProcedure_15 : decode cX2_addProcedure 15 = .ok (.iload_n 1, 1) := by decide +kernel
theorem dX2_addProcedure_16 : decode cX2_addProcedure 16 = .ok (.aload_n 0, 1) := by decide +kernel
theorem dX2_addProcedure_17 : decode cX2_addProcedure 17 = .ok (.getfield 27, 3) := by decide +kernel
theorem dX2_addProcedure_20 : decode cX2_addProcedure 20 = .ok (.iastore, 1) := by decide +kernel
theorem dX2_addProcedure_21 : decode cX2_addProcedure 21 = .ok (.aload_n 0, 1) := by decide +kernel
theorem dX2_addProcedure_22 : decode cX2_addProcedure 22 = .ok (.getfield 24, 3) := by decide +kernel
theorem dX2_addProcedure_25 : decode cX2_addProcedure 25 = .ok (.iload_n 1, 1) := by decide +kernel
theorem dX2_addProcedure_26 : decode cX2_addProcedure 26 = .ok (.iconst 0, 1) := by decide +kernel
theorem dX2_addProcedure_27 : decode cX2_addProcedure 27 = .ok (.iastore, 1) := by decide +kernel
theorem dX2_addProcedure_28 : decode cX2_addProcedure 28 = .ok (.aload_n 0, 1) := by decide +kernel
theorem dX2_addProcedure_29 : decode cX2_addProcedure 29 = .ok (.dup, 1) := by decide +kernel
theorem dX2_addProcedure_30 : decode cX2_addProcedure 30 = .ok (.getfield 31, 3) := by decide +kernel
theorem dX2_addProcedure_33 : decode cX2_addProcedure 33 = .ok (.iconst 1, 1) := by decide +kernel
theorem dX2_addProcedure_34 : decode cX2_addProcedure 34 = .ok (.iadd, 1) := by decide +kernel
theorem dX2_addProcedure_35 : decode cX2_addProcedure 35 = .ok (.putfield 31, 3) := by decide +kernel
theorem dX2_addProcedure_38 : decode cX2_addProcedure 38 = .ok (.iload_n 1, 1) := by decide +kernel
theorem dX2_addProcedure_39 : decode cX2_addProcedure 39 = .ok (.ireturn, 1) := by decide +kernel
theorem dX2_isProcedure_0 : decode cX2_isProcedure 0 = .ok (.iload_n 1, 1) := by decide +kernel
theorem dX2_isProcedure_1 : decode cX2_isProcedure 1 = .ok (.ifCond .lt 21, 3) := by decide +kernel
theorem dX2_isProcedure_4 : decode cX2_isProcedure 4 = .ok (.iload_n 1, 1) := by decide +kernel
theorem dX2_isProcedure_5 : decode cX2_isProcedure 5 = .ok (.aload_n 0, 1) := by decide +kernel
theorem dX2_isProcedure_6 : decode cX2_isProcedure 6 = .ok (.getfield 31, 3) := by decide +kernel
theorem dX2_isProcedure_9 : decode cX2_isProcedure 9 = .ok (.if_icmp .ge 13, 3) := by decide +kernel
theorem dX2_isProcedure_12 : decode cX2_isProcedure 12 = .ok (.iload_n 1, 1) := by decide +kernel
theorem dX2_isProcedure_13 : decode cX2_isProcedure 13 = .ok (.bipush 16, 2) := by decide +kernel
theorem dX2_isProcedure_15 : decode cX2_isProcedure 15 = .ok (.if_icmp .ge 7, 3) := by decide +kernel
theorem dX2_isProcedure_18 : decode cX2_isProcedure 18 = .ok (.iconst 1, 1) := by decide +kernel
theorem dX2_isProcedure_19 : decode cX2_isProcedure 19 = .ok (.goto 4, 3) := by decide +kernel
theorem dX2_isProcedure_22 : decode cX2_isProcedure 22 = .ok (.iconst 0, 1) := by decide +kernel
theorem dX2_isProcedure_23 : decode cX2_isProcedure 23 = .ok (.ireturn, 1) := by decide +kernel
theorem dX2_setFormalCount_0 : decode cX2_setFormalCount 0 = .ok (.aload_n 0, 1) := by decide +kernel
theorem dX2_setFormalCount_1 : decode cX2_setFormalCount 1 = .ok (.iload_n 1, 1) := by decide +kernel
theorem dX2_setFormalCount_2 : decode cX2_setFormalCount 2 = .ok (.invokevirtual 47, 3) := by decide +kernel
theorem dX2_setFormalCount_5 : decode cX2_setFormalCount 5 = .ok (.ifCond .eq 10, 3) := by decide +kernel
theorem dX2_setFormalCount_8 : decode cX2_setFormalCount 8 = .ok (.aload_n 0, 1) := by decide +kernel
theorem dX2_setFormalCount_9 : decode cX2_setFormalCount 9 = .ok (.getfield 24, 3) := by decide +kernel
theorem dX2_setFormalCount_12 : decode cX2_setFormalCount 12 = .ok (.iload_n 1, 1) := by decide +kernel
theorem dX2_setFormalCount_13 : decode cX2_setFormalCount 13 = .ok (.iload_n 2, 1) := by decide +kernel
theorem dX2_setFormalCount_14 : decode cX2_setFormalCount 14 = .ok (.iastore, 1) := by decide +kernel
theorem dX2_setFormalCount_15 : decode cX2_setFormalCount 15 = .ok (.return_, 1) := by decide +kernel
theorem dX2_formalCountOf_0 : decode cX2_formalCountOf 0 = .ok (.aload_n 0, 1) := by decide +kernel
theorem dX2_formalCountOf_1 : decode cX2_formalCountOf 1 = .ok (.iload_n 1, 1) := by decide +kernel
theorem dX2_formalCountOf_2 : decode cX2_formalCountOf 2 = .ok (.invokevirtual 47, 3) := by decide +kernel
theorem dX2_formalCountOf_5 : decode cX2_formalCountOf 5 = .ok (.ifCond .eq 12, 3) := by decide +kernel
theorem dX2_formalCountOf_8 : decode cX2_formalCountOf 8 = .ok (.aload_n 0, 1) := by decide +kernel
theorem dX2_formalCountOf_9 : decode cX2_formalCountOf 9 = .ok (.getfield 24, 3) := by decide +kernel
theorem dX2_formalCountOf_12 : decode cX2_formalCountOf 12 = .ok (.iload_n 1, 1) := by decide +kernel
theorem dX2_formalCountOf_13 : decode cX2_formalCountOf 13 = .ok (.iaload, 1) := by decide +kernel
theorem dX2_formalCountOf_14 : decode cX2_formalCountOf 14 = .ok (.goto 4, 3) := by decide +kernel
theorem dX2_formalCountOf_17 : decode cX2_formalCountOf 17 = .ok (.iconst 0, 1) := by decide +kernel
theorem dX2_formalCountOf_18 : decode cX2_formalCountOf 18 = .ok (.ireturn, 1) := by decide +kernel
theorem dX2_startOf_0 : decode cX2_startOf 0 = .ok (.aload_n 0, 1) := by decide +kernel
theorem dX2_startOf_1 : decode cX2_startOf 1 = .ok (.iload_n 1, 1) := by decide +kernel
theorem dX2_startOf_2 : decode cX2_startOf 2 = .ok (.invokevirtual 47, 3) := by decide +kernel
theorem dX2_startOf_5 : decode cX2_startOf 5 = .ok (.ifCond .eq 12, 3) := by decide +kernel
theorem dX2_startOf_8 : decode cX2_startOf 8 = .ok (.aload_n 0, 1) := by decide +kernel
theorem dX2_startOf_9 : decode cX2_startOf 9 = .ok (.getfield 21, 3) := by decide +kernel
theorem dX2_startOf_12 : decode cX2_startOf 12 = .ok (.iload_n 1, 1) := by decide +kernel
theorem dX2_startOf_13 : decode cX2_startOf 13 = .ok (.iaload, 1) := by decide +kernel
theorem dX2_startOf_14 : decode cX2_startOf 14 = .ok (.goto 7, 3) := by decide +kernel
theorem dX2_startOf_17 : decode cX2_startOf 17 = .ok (.aload_n 0, 1) := by decide +kernel
theorem dX2_startOf_18 : decode cX2_startOf 18 = .ok (.getfield 27, 3) := by decide +kernel
theorem dX2_startOf_21 : decode cX2_startOf 21 = .ok (.ireturn, 1) := by decide +kernel
