theorem dX3_init_0 : decode cX3_init 0 = .ok (.aload_n 0, 1) := by decide +kernel
theorem dX3_init_1 : decode cX3_init 1 = .ok (.invokespecial 3, 3) := by decide +kernel
theorem dX3_init_4 : decode cX3_init 4 = .ok (.aload_n 0, 1) := by decide +kernel
theorem dX3_init_5 : decode cX3_init 5 = .ok (.new 9, 3) := by decide +kernel
theorem dX3_init_8 : decode cX3_init 8 = .ok (.dup, 1) := by decide +kernel
theorem dX3_init_9 : decode cX3_init 9 = .ok (.invokespecial 11, 3) := by decide +kernel
theorem dX3_init_12 : decode cX3_init 12 = .ok (.putfield 12, 3) := by decide +kernel
theorem dX3_init_15 : decode cX3_init 15 = .ok (.return_, 1) := by decide +kernel
theorem dX3_readInto_0 : decode cX3_readInto 0 = .ok (.aload_n 0, 1) := by decide +kernel
theorem dX3_readInto_1 : decode cX3_readInto 1 = .ok (.aload_n 1, 1) := by decide +kernel
theorem dX3_readInto_2 : decode cX3_readInto 2 = .ok (.putfield 18, 3) := by decide +kernel
theorem dX3_readInto_5 : decode cX3_readInto 5 = .ok (.aload_n 0, 1) := by decide +kernel
theorem dX3_readInto_6 : decode cX3_readInto 6 = .ok (.aload_n 2, 1) := by decide +kernel
theorem dX3_readInto_7 : decode cX3_readInto 7 = .ok (.putfield 22, 3) := by decide +kernel
theorem dX3_readInto_10 : decode cX3_readInto 10 = .ok (.aload_n 0, 1) := by decide +kernel
theorem dX3_readInto_11 : decode cX3_readInto 11 = .ok (.getfield 18, 3) := by decide +kernel
theorem dX3_readInto_14 : decode cX3_readInto 14 = .ok (.invokevirtual 26, 3) := by decide +kernel
theorem dX3_readInto_17 : decode cX3_readInto 17 = .ok (.aload_n 0, 1) := by decide +kernel
theorem dX3_readInto_18 : decode cX3_readInto 18 = .ok (.getfield 12, 3) := by decide +kernel
theorem dX3_readInto_21 : decode cX3_readInto 21 = .ok (.invokevirtual 31, 3) := by decide +kernel
theorem dX3_readInto_24 : decode cX3_readInto 24 = .ok (.aload_n 0, 1) := by decide +kernel
theorem dX3_readInto_25 : decode cX3_readInto 25 = .ok (.iload_n 3, 1) := by decide +kernel
theorem dX3_readInto_26 : decode cX3_readInto 26 = .ok (.aload_n 0, 1) := by decide +kernel
theorem dX3_readInto_27 : decode cX3_readInto 27 = .ok (.getfield 22, 3) := by decide +kernel
theorem dX3_readInto_30 : decode cX3_readInto 30 = .ok (.arraylength, 1) := by decide +kernel
theorem dX3_readInto_31 : decode cX3_readInto 31 = .ok (.invokestatic 32, 3) := by decide +kernel
theorem dX3_readInto_34 : decode cX3_readInto 34 = .ok (.putfield 38, 3) := by decide +kernel
theorem dX3_readInto_37 : decode cX3_readInto 37 = .ok (.aload_n 0, 1) := by decide +kernel
theorem dX3_readInto_38 : decode cX3_readInto 38 = .ok (.iconst 0, 1) := by decide +kernel
theorem dX3_readInto_39 : decode cX3_readInto 39 = .ok (.putfield 42, 3) := by decide +kernel
theorem dX3_readInto_42 : decode cX3_readInto 42 = .ok (.aload_n 0, 1) := by decide +kernel
theorem dX3_readInto_43 : decode cX3_readInto 43 = .ok (.iconst 1, 1) := by decide +kernel
theorem dX3_readInto_44 : decode cX3_readInto 44 = .ok (.putfield 45, 3) := by decide +kernel
theorem dX3_readInto_47 : decode cX3_readInto 47 = .ok (.aload_n 0, 1) := by decide +kernel
theorem dX3_readInto_48 : decode cX3_readInto 48 = .ok (.iconst 1, 1) := by decide +kernel
theorem dX3_readInto_49 : decode cX3_readInto 49 = .ok (.invokevirtual 49, 3) := by decide +kernel
theorem dX3_readInto_52 : decode cX3_readInto 52 = .ok (.ifCond .eq 10, 3) := by decide +kernel
theorem dX3_readInto_55 : decode cX3_readInto 55 = .ok (.aload_n 0, 1) := by decide +kernel
theorem dX3_readInto_56 : decode cX3_readInto 56 = .ok (.invokevirtual 53, 3) := by decide +kernel
theorem dX3_readInto_59 : decode cX3_readInto 59 = .ok (.ifCond .eq 5, 3) := by decide +kernel
theorem dX3_readInto_62 : decode cX3_readInto 62 = .ok (.iconst (-1), 1) := by decide +kernel
theorem dX3_readInto_63 : decode cX3_readInto 63 = .ok (.ireturn, 1) := by decide +kernel
theorem dX3_readInto_64 : decode cX3_readInto 64 = .ok (.aload_n 0, 1) := by decide +kernel
theorem dX3_readInto_65 : decode cX3_readInto 65 = .ok (.getfield 18, 3) := by decide +kernel
theorem dX3_readInto_68 : decode cX3_readInto 68 = .ok (.iconst 0, 1) := by decide +kernel
theorem dX3_readInto_69 : decode cX3_readInto 69 = .ok (.iconst 0, 1) := by decide +kernel
theorem dX3_readInto_70 : decode cX3_readInto 70 = .ok (.iconst 0, 1) := by decide +kernel
theorem dX3_readInto_71 : decode cX3_readInto 71 = .ok (.invokevirtual 57, 3) := by decide +kernel
theorem dX3_readInto_74 : decode cX3_readInto 74 = .ok (.pop, 1) := by decide +kernel
theorem dX3_readInto_75 : decode cX3_readInto 75 = .ok (.aload_n 0, 1) := by decide +kernel
theorem dX3_readInto_76 : decode cX3_readInto 76 = .ok (.getfield 45, 3) := by decide +kernel
theorem dX3_readInto_79 : decode cX3_readInto 79 = .ok (.ifCond .eq 7, 3) := by decide +kernel
theorem dX3_readInto_82 : decode cX3_readInto 82 = .ok (.iconst 0, 1) := by decide +kernel
theorem dX3_readInto_83 : decode cX3_readInto 83 = .ok (.goto 5, 3) := by decide +kernel
theorem dX3_readInto_86 : decode cX3_readInto 86 = .ok (.bipush (-2), 2) := by decide +kernel
theorem dX3_readInto_88 : decode cX3_readInto 88 = .ok (.ireturn, 1) := by decide +kernel
theorem dX3_look_0 : decode cX3_look 0 = .ok (.aload_n 0, 1) := by decide +kernel
theorem dX3_look_1 : decode cX3_look 1 = .ok (.getfield 42, 3) := by decide +kernel
theorem dX3_look_4 : decode cX3_look 4 = .ok (.aload_n 0, 1) := by decide +kernel
theorem dX3_look_5 : decode cX3_look 5 = .ok (.getfield 38, 3) := by decide +kernel
theorem dX3_look_8 : decode cX3_look 8 = .ok (.if_icmp .ge 44, 3) := by decide +kernel
theorem dX3_look_11 : decode cX3_look 11 = .ok (.aload_n 0, 1) := by decide +kernel
theorem dX3_look_12 : decode cX3_look 12 = .ok (.getfield 22, 3) := by decide +kernel
theorem dX3_look_15 : decode cX3_look 15 = .ok (.aload_n 0, 1) := by decide +kernel
theorem dX3_look_16 : decode cX3_look 16 = .ok (.getfield 42, 3) := by decide +kernel
theorem dX3_look_19 : decode cX3_look 19 = .ok (.caload, 1) := by decide +kernel
theorem dX3_look_20 : decode cX3_look 20 = .ok (.bipush 32, 2) := by decide +kernel
theorem dX3_look_22 : decode cX3_look 22 = .ok (.if_icmp .eq 17, 3) := by decide +kernel
theorem dX3_look_25 : decode cX3_look 25 = .ok (.aload_n 0, 1) := by decide +kernel
theorem dX3_look_26 : decode cX3_look 26 = .ok (.getfield 22, 3) := by decide +kernel
theorem dX3_look_29 : decode cX3_look 29 = .ok (.aload_n 0, 1) := by decide +kernel
theorem dX3_look_30 : decode cX3_look 30 = .ok (.getfield 42, 3) := by decide +kernel
theorem dX3_look_33 : decode cX3_look 33 = .ok (.caload, 1) := by decide +kernel
theorem dX3_look_34 : decode cX3_look 34 = .ok (.bipush 10, 2) := by decide +kernel
theorem dX3_look_36 : decode cX3_look 36 = .ok (.if_icmp .ne 16, 3) := by decide +kernel
theorem dX3_look_39 : decode cX3_look 39 = .ok (.aload_n 0, 1) := by decide +kernel
theorem dX3_look_40 : decode cX3_look 40 = .ok (.dup, 1) := by decide +kernel
theorem dX3_look_41 : decode cX3_look 41 = .ok (.getfield 42, 3) := by decide +kernel
theorem dX3_look_44 : decode cX3_look 44 = .ok (.iconst 1, 1) := by decide +kernel
theorem dX3_look_45 : decode cX3_look 45 = .ok (.iadd, 1) := by decide +kernel
theorem dX3_look_46 : decode cX3_look 46 = .ok (.putfield 42, 3) := by decide +kernel
theorem dX3_look_49 : decode cX3_look 49 = .ok (.goto (-49), 3) := by decide +kernel
theorem dX3_look_52 : decode cX3_look 52 = .ok (.aload_n 0, 1) := by decide +kernel
theorem dX3_look_53 : decode cX3_look 53 = .ok (.getfield 42, 3) := by decide +kernel
theorem dX3_look_56 : decode cX3_look 56 = .ok (.aload_n 0, 1) := by decide +kernel
theorem dX3_look_57 : decode cX3_look 57 = .ok (.getfield 38, 3) := by decide +kernel
theorem dX3_look_60 : decode cX3_look 60 = .ok (.if_icmp .ge 15, 3) := by decide +kernel
theorem dX3_look_63 : decode cX3_look 63 = .ok (.aload_n 0, 1) := by decide +kernel
theorem dX3_look_64 : decode cX3_look 64 = .ok (.getfield 22, 3) := by decide +kernel
theorem dX3_look_67 : decode cX3_look 67 = .ok (.aload_n 0, 1) := by decide +kernel
theorem dX3_look_68 : decode cX3_look 68 = .ok (.getfield 42, 3) := by decide +kernel
theorem dX3_look_71 : decode cX3_look 71 = .ok (.caload, 1) := by decide +kernel
theorem dX3_look_72 : decode cX3_look 72 = .ok (.goto 4, 3) := by decide +kernel
theorem dX3_look_75 : decode cX3_look 75 = .ok (.iconst 0, 1) := by decide +kernel
theorem dX3_look_76 : decode cX3_look 76 = .ok (.ireturn, 1) := by decide +kernel
theorem dX3_take_0 : decode cX3_take 0 = .ok (.aload_n 0, 1) := by decide +kernel
theorem dX3_take_1 : decode cX3_take 1 = .ok (.invokevirtual 53, 3) := by decide +kernel
theorem dX3_take_4 : decode cX3_take 4 = .ok (.iload_n 1, 1) := by decide +kernel
theorem dX3_take_5 : decode cX3_take 5 = .ok (.if_icmp .eq 5, 3) := by decide +kernel
theorem dX3_take_8 : decode cX3_take 8 = .ok (.iconst 0, 1) := by decide +kernel
theorem dX3_take_9 : decode cX3_take 9 = .ok (.ireturn, 1) := by decide +kernel
theorem dX3_take_10 : decode cX3_take 10 = .ok (.aload_n 0, 1) := by decide +kernel
theorem dX3_take_11 : decode cX3_take 11 = .ok (.dup, 1) := by decide +kernel
theorem dX3_take_12 : decode cX3_take 12 = .ok (.getfield 42, 3) := by decide +kernel
theorem dX3_take_15 : decode cX3_take 15 = .ok (.iconst 1, 1) := by decide +kernel
theorem dX3_take_16 : decode cX3_take 16 = .ok (.iadd, 1) := by decide +kernel
theorem dX3_take_17 : decode cX3_take 17 = .ok (.putfield 42, 3) := by decide +kernel
theorem dX3_take_20 : decode cX3_take 20 = .ok (.iconst 1, 1) := by decide +kernel
theorem dX3_take_21 : decode cX3_take 21 = .ok (.ireturn, 1) := by decide +kernel
theorem dX3_takeName_0 : decode cX3_takeName 0 = .ok (.aload_n 0, 1) := by decide +kernel
theorem dX3_takeName_1 : decode cX3_takeName 1 = .ok (.invokevirtual 53, 3) := by decide +kernel
theorem dX3_takeName_4 : decode cX3_takeName 4 = .ok (.istore_n 1, 1) := by decide +kernel
theorem dX3_takeName_5 : decode cX3_takeName 5 = .ok (.iload_n 1, 1) := by decide +kernel
theorem dX3_takeName_6 : decode cX3_takeName 6 = .ok (.bipush 97, 2) := by decide +kernel
theorem dX3_takeName_8 : decode cX3_takeName 8 = .ok (.if_icmp .lt 9, 3) := by decide +kernel
theorem dX3_takeName_11 : decode cX3_takeName 11 = .ok (.iload_n 1, 1) := by decide +kernel
theorem dX3_takeName_12 : decode cX3_takeName 12 = .ok (.bipush 122, 2) := by decide +kernel
theorem dX3_takeName_14 : decode cX3_takeName 14 = .ok (.if_icmp .le 5, 3) := by decide +kernel
theorem dX3_takeName_17 : decode cX3_takeName 17 = .ok (.iconst 0, 1) := by decide +kernel
theorem dX3_takeName_18 : decode cX3_takeName 18 = .ok (.ireturn, 1) := by decide +kernel
theorem dX3_takeName_19 : decode cX3_takeName 19 = .ok (.aload_n 0, 1) := by decide +kernel
theorem dX3_takeName_20 : decode cX3_takeName 20 = .ok (.dup, 1) := by decide +kernel
theorem dX3_takeName_21 : decode cX3_takeName 21 = .ok (.getfield 42, 3) := by decide +kernel
theorem dX3_takeName_24 : decode cX3_takeName 24 = .ok (.iconst 1, 1) := by decide +kernel
theorem dX3_takeName_25 : decode cX3_takeName 25 = .ok (.iadd, 1) := by decide +kernel
theorem dX3_takeName_26 : decode cX3_takeName 26 = .ok (.putfield 42, 3) := by decide +kernel
theorem dX3_takeName_29 : decode cX3_takeName 29 = .ok (.iload_n 1, 1) := by decide +kernel
theorem dX3_takeName_30 : decode cX3_takeName 30 = .ok (.ireturn, 1) := by decide +kernel
theorem dX3_reach_0 : decode cX3_reach 0 = .ok (.aload_n 0, 1) := by decide +kernel
theorem dX3_reach_1 : decode cX3_reach 1 = .ok (.getfield 18, 3) := by decide +kernel
theorem dX3_reach_4 : decode cX3_reach 4 = .ok (.aload_n 0, 1) := by decide +kernel
theorem dX3_reach_5 : decode cX3_reach 5 = .ok (.getfield 18, 3) := by decide +kernel
theorem dX3_reach_8 : decode cX3_reach 8 = .ok (.getfield 61, 3) := by decide +kernel
theorem dX3_reach_11 : decode cX3_reach 11 = .ok (.iload_n 1, 1) := by decide +kernel
theorem dX3_reach_12 : decode cX3_reach 12 = .ok (.invokestatic 64, 3) := by decide +kernel
theorem dX3_reach_15 : decode cX3_reach 15 = .ok (.putfield 61, 3) := by decide +kernel
theorem dX3_reach_18 : decode cX3_reach 18 = .ok (.iload_n 1, 1) := by decide +kernel
theorem dX3_reach_19 : decode cX3_reach 19 = .ok (.bipush 10, 2) := by decide +kernel
theorem dX3_reach_21 : decode cX3_reach 21 = .ok (.if_icmp .gt 7, 3) := by decide +kernel
theorem dX3_reach_24 : decode cX3_reach 24 = .ok (.iconst 1, 1) := by decide +kernel
theorem dX3_reach_25 : decode cX3_reach 25 = .ok (.goto 4, 3) := by decide +kernel
theorem dX3_reach_28 : decode cX3_reach 28 = .ok (.iconst 0, 1) := by decide +kernel
theorem dX3_reach_29 : decode cX3_reach 29 = .ok (.ireturn, 1) := by decide +kernel
theorem dX3_statement_0 : decode cX3_statement 0 = .ok (.aload_n 0, 1) := by decide +kernel
theorem dX3_statement_1 : decode cX3_statement 1 = .ok (.iload_n 1, 1) := by decide +kernel
theorem dX3_statement_2 : decode cX3_statement 2 = .ok (.invokevirtual 67, 3) := by decide +kernel
theorem dX3_statement_5 : decode cX3_statement 5 = .ok (.ifCond .ne 5, 3) := by decide +kernel
theorem dX3_statement_8 : decode cX3_statement 8 = .ok (.iconst 0, 1) := by decide +kernel
theorem dX3_statement_9 : decode cX3_statement 9 = .ok (.ireturn, 1) := by decide +kernel
theorem dX3_statement_10 : decode cX3_statement 10 = .ok (.aload_n 0, 1) := by decide +kernel
theorem dX3_statement_11 : decode cX3_statement 11 = .ok (.getfield 18, 3) := by decide +kernel
theorem dX3_statement_14 : decode cX3_statement 14 = .ok (.dup, 1) := by decide +kernel
theorem dX3_statement_15 : decode cX3_statement 15 = .ok (.getfield 70, 3) := by decide +kernel
theorem dX3_statement_18 : decode cX3_statement 18 = .ok (.iconst 1, 1) := by decide +kernel
theorem dX3_statement_19 : decode cX3_statement 19 = .ok (.iadd, 1) := by decide +kernel
theorem dX3_statement_20 : decode cX3_statement 20 = .ok (.putfield 70, 3) := by decide +kernel
theorem dX3_statement_23 : decode cX3_statement 23 = .ok (.aload_n 0, 1) := by decide +kernel
theorem dX3_statement_24 : decode cX3_statement 24 = .ok (.bipush 123, 2) := by decide +kernel
theorem dX3_statement_26 : decode cX3_statement 26 = .ok (.invokevirtual 73, 3) := by decide +kernel
theorem dX3_statement_29 : decode cX3_statement 29 = .ok (.ifCond .eq 9, 3) := by decide +kernel
theorem dX3_statement_32 : decode cX3_statement 32 = .ok (.aload_n 0, 1) := by decide +kernel
theorem dX3_statement_33 : decode cX3_statement 33 = .ok (.iload_n 1, 1) := by decide +kernel
theorem dX3_statement_34 : decode cX3_statement 34 = .ok (.invokevirtual 76, 3) := by decide +kernel
theorem dX3_statement_37 : decode cX3_statement 37 = .ok (.ireturn, 1) := by decide +kernel
theorem dX3_statement_38 : decode cX3_statement 38 = .ok (.aload_n 0, 1) := by decide +kernel
theorem dX3_statement_39 : decode cX3_statement 39 = .ok (.bipush 33, 2) := by decide +kernel
theorem dX3_statement_41 : decode cX3_statement 41 = .ok (.invokevirtual 73, 3) := by decide +kernel
theorem dX3_statement_44 : decode cX3_statement 44 = .ok (.ifCond .eq 9, 3) := by decide +kernel
theorem dX3_statement_47 : decode cX3_statement 47 = .ok (.aload_n 0, 1) := by decide +kernel
theorem dX3_statement_48 : decode cX3_statement 48 = .ok (.iload_n 1, 1) := by decide +kernel
theorem dX3_statement_49 : decode cX3_statement 49 = .ok (.invokevirtual 79, 3) := by decide +kernel
theorem dX3_statement_52 : decode cX3_statement 52 = .ok (.ireturn, 1) := by decide +kernel
theorem dX3_statement_53 : decode cX3_statement 53 = .ok (.aload_n 0, 1) := by decide +kernel
theorem dX3_statement_54 : decode cX3_statement 54 = .ok (.bipush 63, 2) := by decide +kernel
theorem dX3_statement_56 : decode cX3_statement 56 = .ok (.invokevirtual 73, 3) := by decide +kernel
theorem dX3_statement_59 : decode cX3_statement 59 = .ok (.ifCond .eq 9, 3) := by decide +kernel
theorem dX3_statement_62 : decode cX3_statement 62 = .ok (.aload_n 0, 1) := by decide +kernel
theorem dX3_statement_63 : decode cX3_statement 63 = .ok (.iload_n 1, 1) := by decide +kernel
theorem dX3_statement_64 : decode cX3_statement 64 = .ok (.invokevirtual 82, 3) := by decide +kernel
theorem dX3_statement_67 : decode cX3_statement 67 = .ok (.ireturn, 1) := by decide +kernel
theorem dX3_statement_68 : decode cX3_statement 68 = .ok (.aload_n 0, 1) := by decide +kernel
theorem dX3_statement_69 : decode cX3_statement 69 = .ok (.bipush 42, 2) := by decide +kernel
theorem dX3_statement_71 : decode cX3_statement 71 = .ok (.invokevirtual 73, 3) := by decide +kernel
theorem dX3_statement_74 : decode cX3_statement 74 = .ok (.ifCond .eq 9, 3) := by decide +kernel
theorem dX3_statement_77 : decode cX3_statement 77 = .ok (.aload_n 0, 1) := by decide +kernel
theorem dX3_statement_78 : decode cX3_statement 78 = .ok (.iload_n 1, 1) := by decide +kernel
theorem dX3_statement_79 : decode cX3_statement 79 = .ok (.invokevirtual 85, 3) := by decide +kernel
theorem dX3_statement_82 : decode cX3_statement 82 = .ok (.ireturn, 1) := by decide +kernel
theorem dX3_statement_83 : decode cX3_statement 83 = .ok (.aload_n 0, 1) := by decide +kernel
theorem dX3_statement_84 : decode cX3_statement 84 = .ok (.invokevirtual 88, 3) := by decide +kernel
theorem dX3_statement_87 : decode cX3_statement 87 = .ok (.istore_n 2, 1) := by decide +kernel
theorem dX3_statement_88 : decode cX3_statement 88 = .ok (.iload_n 2, 1) := by decide +kernel
theorem dX3_statement_89 : decode cX3_statement 89 = .ok (.ifCond .ne 5, 3) := by decide +kernel
theorem dX3_statement_92 : decode cX3_statement 92 = .ok (.iconst 0, 1) := by decide +kernel
theorem dX3_statement_93 : decode cX3_statement 93 = .ok (.ireturn, 1) := by decide +kernel
theorem dX3_statement_94 : decode cX3_statement 94 = .ok (.aload_n 0, 1) := by decide +kernel
theorem dX3_statement_95 : decode cX3_statement 95 = .ok (.bipush 61, 2) := by decide +kernel
theorem dX3_statement_97 : decode cX3_statement 97 = .ok (.invokevirtual 73, 3) := by decide +kernel
theorem dX3_statement_100 : decode cX3_statement 100 = .ok (.ifCond .eq 10, 3) := by decide +kernel
theorem dX3_statement_103 : decode cX3_statement 103 = .ok (.aload_n 0, 1) := by decide +kernel
theorem dX3_statement_104 : decode cX3_statement 104 = .ok (.iload_n 2, 1) := by decide +kernel
theorem dX3_statement_105 : decode cX3_statement 105 = .ok (.iload_n 1, 1) := by decide +kernel
theorem dX3_statement_106 : decode cX3_statement 106 = .ok (.invokevirtual 91, 3) := by decide +kernel
theorem dX3_statement_109 : decode cX3_statement 109 = .ok (.ireturn, 1) := by decide +kernel
theorem dX3_statement_110 : decode cX3_statement 110 = .ok (.aload_n 0, 1) := by decide +kernel
theorem dX3_statement_111 : decode cX3_statement 111 = .ok (.iload_n 2, 1) := by decide +kernel
theorem dX3_statement_112 : decode cX3_statement 112 = .ok (.bipush 15, 2) := by decide +kernel
theorem dX3_statement_114 : decode cX3_statement 114 = .ok (.bipush 14, 2) := by decide +kernel
theorem dX3_statement_116 : decode cX3_statement 116 = .ok (.bipush 13, 2) := by decide +kernel
theorem dX3_statement_118 : decode cX3_statement 118 = .ok (.invokevirtual 95, 3) := by decide +kernel
theorem dX3_statement_121 : decode cX3_statement 121 = .ok (.aload_n 0, 1) := by decide +kernel
theorem dX3_statement_122 : decode cX3_statement 122 = .ok (.bipush 40, 2) := by decide +kernel
theorem dX3_statement_124 : decode cX3_statement 124 = .ok (.invokevirtual 73, 3) := by decide +kernel
theorem dX3_statement_127 : decode cX3_statement 127 = .ok (.ifCond .eq 26, 3) := by decide +kernel
theorem dX3_statement_130 : decode cX3_statement 130 = .ok (.aload_n 0, 1) := by decide +kernel
theorem dX3_statement_131 : decode cX3_statement 131 = .ok (.iload_n 1, 1) := by decide +kernel
theorem dX3_statement_132 : decode cX3_statement 132 = .ok (.iconst 1, 1) := by decide +kernel
theorem dX3_statement_133 : decode cX3_statement 133 = .ok (.iadd, 1) := by decide +kernel
theorem dX3_statement_134 : decode cX3_statement 134 = .ok (.invokevirtual 99, 3) := by decide +kernel
theorem dX3_statement_137 : decode cX3_statement 137 = .ok (.ifCond .eq 16, 3) := by decide +kernel
theorem dX3_statement_140 : decode cX3_statement 140 = .ok (.aload_n 0, 1) := by decide +kernel
theorem dX3_statement_141 : decode cX3_statement 141 = .ok (.bipush 59, 2) := by decide +kernel
theorem dX3_statement_143 : decode cX3_statement 143 = .ok (.invokevirtual 73, 3) := by decide +kernel
theorem dX3_statement_146 : decode cX3_statement 146 = .ok (.ifCond .eq 7, 3) := by decide +kernel
theorem dX3_statement_149 : decode cX3_statement 149 = .ok (.iconst 1, 1) := by decide +kernel
theorem dX3_statement_150 : decode cX3_statement 150 = .ok (.goto 4, 3) := by decide +kernel
theorem dX3_statement_153 : decode cX3_statement 153 = .ok (.iconst 0, 1) := by decide +kernel
theorem dX3_statement_154 : decode cX3_statement 154 = .ok (.ireturn, 1) := by decide +kernel
theorem dX3_assignment_0 : decode cX3_assignment 0 = .ok (.aload_n 0, 1) := by decide +kernel
theorem dX3_assignment_1 : decode cX3_assignment 1 = .ok (.iload_n 1, 1) := by decide +kernel
theorem dX3_assignment_2 : decode cX3_assignment 2 = .ok (.invokevirtual 102, 3) := by decide +kernel
theorem dX3_assignment_5 : decode cX3_assignment 5 = .ok (.aload_n 0, 1) := by decide +kernel
theorem dX3_assignment_6 : decode cX3_assignment 6 = .ok (.iload_n 2, 1) := by decide +kernel
theorem dX3_assignment_7 : decode cX3_assignment 7 = .ok (.iconst 1, 1) := by decide +kernel
theorem dX3_assignment_8 : decode cX3_assignment 8 = .ok (.iadd, 1) := by decide +kernel
theorem dX3_assignment_9 : decode cX3_assignment 9 = .ok (.invokevirtual 106, 3) := by decide +kernel
theorem dX3_assignment_12 : decode cX3_assignment 12 = .ok (.ifCond .eq 12, 3) := by decide +kernel
theorem dX3_assignment_15 : decode cX3_assignment 15 = .ok (.aload_n 0, 1) := by decide +kernel
theorem dX3_assignment_16 : decode cX3_assignment 16 = .ok (.bipush 59, 2) := by decide +kernel
theorem dX3_assignment_18 : decode cX3_assignment 18 = .ok (.invokevirtual 73, 3) := by decide +kernel
theorem dX3_assignment_21 : decode cX3_assignment 21 = .ok (.ifCond .ne 5, 3) := by decide +kernel
theorem dX3_assignment_24 : decode cX3_assignment 24 = .ok (.iconst 0, 1) := by decide +kernel
theorem dX3_assignment_25 : decode cX3_assignment 25 = .ok (.ireturn, 1) := by decide +kernel
theorem dX3_assignment_26 : decode cX3_assignment 26 = .ok (.aload_n 0, 1) := by decide +kernel
theorem dX3_assignment_27 : decode cX3_assignment 27 = .ok (.getfield 18, 3) := by decide +kernel
theorem dX3_assignment_30 : decode cX3_assignment 30 = .ok (.bipush 9, 2) := by decide +kernel
theorem dX3_assignment_32 : decode cX3_assignment 32 = .ok (.iconst 0, 1) := by decide +kernel
theorem dX3_assignment_33 : decode cX3_assignment 33 = .ok (.iconst 0, 1) := by decide +kernel
theorem dX3_assignment_34 : decode cX3_assignment 34 = .ok (.invokevirtual 57, 3) := by decide +kernel
theorem dX3_assignment_37 : decode cX3_assignment 37 = .ok (.pop, 1) := by decide +kernel
theorem dX3_assignment_38 : decode cX3_assignment 38 = .ok (.iconst 1, 1) := by decide +kernel
theorem dX3_assignment_39 : decode cX3_assignment 39 = .ok (.ireturn, 1) := by decide +kernel
theorem dX3_print_0 : decode cX3_print 0 = .ok (.aload_n 0, 1) := by decide +kernel
theorem dX3_print_1 : decode cX3_print 1 = .ok (.getfield 18, 3) := by decide +kernel
theorem dX3_print_4 : decode cX3_print 4 = .ok (.iconst 1, 1) := by decide +kernel
theorem dX3_print_5 : decode cX3_print 5 = .ok (.iconst 0, 1) := by decide +kernel
theorem dX3_print_6 : decode cX3_print 6 = .ok (.iconst 0, 1) := by decide +kernel
theorem dX3_print_7 : decode cX3_print 7 = .ok (.invokevirtual 57, 3) := by decide +kernel
theorem dX3_print_10 : decode cX3_print 10 = .ok (.pop, 1) := by decide +kernel
theorem dX3_print_11 : decode cX3_print 11 = .ok (.aload_n 0, 1) := by decide +kernel
theorem dX3_print_12 : decode cX3_print 12 = .ok (.iload_n 1, 1) := by decide +kernel
theorem dX3_print_13 : decode cX3_print 13 = .ok (.iconst 1, 1) := by decide +kernel
theorem dX3_print_14 : decode cX3_print 14 = .ok (.iadd, 1) := by decide +kernel
theorem dX3_print_15 : decode cX3_print 15 = .ok (.invokevirtual 106, 3) := by decide +kernel
theorem dX3_print_18 : decode cX3_print 18 = .ok (.ifCond .eq 12, 3) := by decide +kernel
theorem dX3_print_21 : decode cX3_print 21 = .ok (.aload_n 0, 1) := by decide +kernel
theorem dX3_print_22 : decode cX3_print 22 = .ok (.bipush 59, 2) := by decide +kernel
theorem dX3_print_24 : decode cX3_print 24 = .ok (.invokevirtual 73, 3) := by decide +kernel
theorem dX3_print_27 : decode cX3_print 27 = .ok (.ifCond .ne 5, 3) := by decide +kernel
theorem dX3_print_30 : decode cX3_print 30 = .ok (.iconst 0, 1) := by decide +kernel
theorem dX3_print_31 : decode cX3_print 31 = .ok (.ireturn, 1) := by decide +kernel
theorem dX3_print_32 : decode cX3_print 32 = .ok (.aload_n 0, 1) := by decide +kernel
theorem dX3_print_33 : decode cX3_print 33 = .ok (.getfield 18, 3) := by decide +kernel
theorem dX3_print_36 : decode cX3_print 36 = .ok (.iconst 5, 1) := by decide +kernel
theorem dX3_print_37 : decode cX3_print 37 = .ok (.iconst 0, 1) := by decide +kernel
theorem dX3_print_38 : decode cX3_print 38 = .ok (.iconst 0, 1) := by decide +kernel
theorem dX3_print_39 : decode cX3_print 39 = .ok (.invokevirtual 57, 3) := by decide +kernel
theorem dX3_print_42 : decode cX3_print 42 = .ok (.pop, 1) := by decide +kernel
theorem dX3_print_43 : decode cX3_print 43 = .ok (.iconst 1, 1) := by decide +kernel
theorem dX3_print_44 : decode cX3_print 44 = .ok (.ireturn, 1) := by decide +kernel
theorem dX3_choice_0 : decode cX3_choice 0 = .ok (.aload_n 0, 1) := by decide +kernel
theorem dX3_choice_1 : decode cX3_choice 1 = .ok (.getfield 18, 3) := by decide +kernel
theorem dX3_choice_4 : decode cX3_choice 4 = .ok (.iconst 1, 1) := by decide +kernel
theorem dX3_choice_5 : decode cX3_choice 5 = .ok (.iconst 0, 1) := by decide +kernel
theorem dX3_choice_6 : decode cX3_choice 6 = .ok (.iconst 0, 1) := by decide +kernel
theorem dX3_choice_7 : decode cX3_choice 7 = .ok (.invokevirtual 57, 3) := by decide +kernel
theorem dX3_choice_10 : decode cX3_choice 10 = .ok (.pop, 1) := by decide +kernel
theorem dX3_choice_11 : decode cX3_choice 11 = .ok (.aload_n 0, 1) := by decide +kernel
theorem dX3_choice_12 : decode cX3_choice 12 = .ok (.bipush 40, 2) := by decide +kernel
theorem dX3_choice_14 : decode cX3_choice 14 = .ok (.invokevirtual 73, 3) := by decide +kernel
theorem dX3_choice_17 : decode cX3_choice 17 = .ok (.ifCond .eq 22, 3) := by decide +kernel
theorem dX3_choice_20 : decode cX3_choice 20 = .ok (.aload_n 0, 1) := by decide +kernel
theorem dX3_choice_21 : decode cX3_choice 21 = .ok (.iload_n 1, 1) := by decide +kernel
theorem dX3_choice_22 : decode cX3_choice 22 = .ok (.iconst 1, 1) := by decide +kernel
theorem dX3_choice_23 : decode cX3_choice 23 = .ok (.iadd, 1) := by decide +kernel
theorem dX3_choice_24 : decode cX3_choice 24 = .ok (.invokevirtual 106, 3) := by decide +kernel
theorem dX3_choice_27 : decode cX3_choice 27 = .ok (.ifCond .eq 12, 3) := by decide +kernel
theorem dX3_choice_30 : decode cX3_choice 30 = .ok (.aload_n 0, 1) := by decide +kernel
theorem dX3_choice_31 : decode cX3_choice 31 = .ok (.bipush 41, 2) := by decide +kernel
theorem dX3_choice_33 : decode cX3_choice 33 = .ok (.invokevirtual 73, 3) := by decide +kernel
theorem dX3_choice_36 : decode cX3_choice 36 = .ok (.ifCond .ne 5, 3) := by decide +kernel
theorem dX3_choice_39 : decode cX3_choice 39 = .ok (.iconst 0, 1) := by decide +kernel
theorem dX3_choice_40 : decode cX3_choice 40 = .ok (.ireturn, 1) := by decide +kernel
theorem dX3_choice_41 : decode cX3_choice 41 = .ok (.aload_n 0, 1) := by decide +kernel
theorem dX3_choice_42 : decode cX3_choice 42 = .ok (.getfield 18, 3) := by decide +kernel
theorem dX3_choice_45 : decode cX3_choice 45 = .ok (.iconst 4, 1) := by decide +kernel
theorem dX3_choice_46 : decode cX3_choice 46 = .ok (.iconst 0, 1) := by decide +kernel
theorem dX3_choice_47 : decode cX3_choice 47 = .ok (.iconst 0, 1) := by decide +kernel
theorem dX3_choice_48 : decode cX3_choice 48 = .ok (.invokevirtual 57, 3) := by decide +kernel
theorem dX3_choice_51 : decode cX3_choice 51 = .ok (.istore_n 2, 1) := by decide +kernel
theorem dX3_choice_52 : decode cX3_choice 52 = .ok (.aload_n 0, 1) := by decide +kernel
theorem dX3_choice_53 : decode cX3_choice 53 = .ok (.iload_n 1, 1) := by decide +kernel
theorem dX3_choice_54 : decode cX3_choice 54 = .ok (.iconst 1, 1) := by decide +kernel
theorem dX3_choice_55 : decode cX3_choice 55 = .ok (.iadd, 1) := by decide +kernel
theorem dX3_choice_56 : decode cX3_choice 56 = .ok (.invokevirtual 49, 3) := by decide +kernel
theorem dX3_choice_59 : decode cX3_choice 59 = .ok (.ifCond .ne 5, 3) := by decide +kernel
theorem dX3_choice_62 : decode cX3_choice 62 = .ok (.iconst 0, 1) := by decide +kernel
theorem dX3_choice_63 : decode cX3_choice 63 = .ok (.ireturn, 1) := by decide +kernel
theorem dX3_choice_64 : decode cX3_choice 64 = .ok (.aload_n 0, 1) := by decide +kernel
theorem dX3_choice_65 : decode cX3_choice 65 = .ok (.getfield 18, 3) := by decide +kernel
theorem dX3_choice_68 : decode cX3_choice 68 = .ok (.iconst 3, 1) := by decide +kernel
theorem dX3_choice_69 : decode cX3_choice 69 = .ok (.iconst 0, 1) := by decide +kernel
theorem dX3_choice_70 : decode cX3_choice 70 = .ok (.iconst 0, 1) := by decide +kernel
theorem dX3_choice_71 : decode cX3_choice 71 = .ok (.invokevirtual 57, 3) := by decide +kernel
theorem dX3_choice_74 : decode cX3_choice 74 = .ok (.istore_n 3, 1) := by decide +kernel
theorem dX3_choice_75 : decode cX3_choice 75 = .ok (.aload_n 0, 1) := by decide +kernel
theorem dX3_choice_76 : decode cX3_choice 76 = .ok (.getfield 18, 3) := by decide +kernel
theorem dX3_choice_79 : decode cX3_choice 79 = .ok (.iload_n 2, 1) := by decide +kernel
theorem dX3_choice_80 : decode cX3_choice 80 = .ok (.aload_n 0, 1) := by decide +kernel
theorem dX3_choice_81 : decode cX3_choice 81 = .ok (.getfield 18, 3) := by decide +kernel
theorem dX3_choice_84 : decode cX3_choice 84 = .ok (.getfield 109, 3) := by decide +kernel
theorem dX3_choice_87 : decode cX3_choice 87 = .ok (.invokevirtual 112, 3) := by decide +kernel
theorem dX3_choice_90 : decode cX3_choice 90 = .ok (.aload_n 0, 1) := by decide +kernel
theorem dX3_choice_91 : decode cX3_choice 91 = .ok (.iload_n 1, 1) := by decide +kernel
theorem dX3_choice_92 : decode cX3_choice 92 = .ok (.iconst 1, 1) := by decide +kernel
theorem dX3_choice_93 : decode cX3_choice 93 = .ok (.iadd, 1) := by decide +kernel
theorem dX3_choice_94 : decode cX3_choice 94 = .ok (.invokevirtual 49, 3) := by decide +kernel
theorem dX3_choice_97 : decode cX3_choice 97 = .ok (.ifCond .ne 5, 3) := by decide +kernel
theorem dX3_choice_100 : decode cX3_choice 100 = .ok (.iconst 0, 1) := by decide +kernel
theorem dX3_choice_101 : decode cX3_choice 101 = .ok (.ireturn, 1) := by decide +kernel
theorem dX3_choice_102 : decode cX3_choice 102 = .ok (.aload_n 0, 1) := by decide +kernel
theorem dX3_choice_103 : decode cX3_choice 103 = .ok (.getfield 18, 3) := by decide +kernel
theorem dX3_choice_106 : decode cX3_choice 106 = .ok (.iload_n 3, 1) := by decide +kernel
theorem dX3_choice_107 : decode cX3_choice 107 = .ok (.aload_n 0, 1) := by decide +kernel
theorem dX3_choice_108 : decode cX3_choice 108 = .ok (.getfield 18, 3) := by decide +kernel
theorem dX3_choice_111 : decode cX3_choice 111 = .ok (.getfield 109, 3) := by decide +kernel
theorem dX3_choice_114 : decode cX3_choice 114 = .ok (.invokevirtual 112, 3) := by decide +kernel
theorem dX3_choice_117 : decode cX3_choice 117 = .ok (.iconst 1, 1) := by decide +kernel
theorem dX3_choice_118 : decode cX3_choice 118 = .ok (.ireturn, 1) := by decide +kernel
theorem dX3_loop_0 : decode cX3_loop 0 = .ok (.aload_n 0, 1) := by decide +kernel
theorem dX3_loop_1 : decode cX3_loop 1 = .ok (.getfield 18, 3) := by decide +kernel
theorem dX3_loop_4 : decode cX3_loop 4 = .ok (.iconst 1, 1) := by decide +kernel
theorem dX3_loop_5 : decode cX3_loop 5 = .ok (.iconst 0, 1) := by decide +kernel
theorem dX3_loop_6 : decode cX3_loop 6 = .ok (.iconst 0, 1) := by decide +kernel
theorem dX3_loop_7 : decode cX3_loop 7 = .ok (.invokevirtual 57, 3) := by decide +kernel
theorem dX3_loop_10 : decode cX3_loop 10 = .ok (.pop, 1) := by decide +kernel
theorem dX3_loop_11 : decode cX3_loop 11 = .ok (.aload_n 0, 1) := by decide +kernel
theorem dX3_loop_12 : decode cX3_loop 12 = .ok (.getfield 18, 3) := by decide +kernel
theorem dX3_loop_15 : decode cX3_loop 15 = .ok (.getfield 109, 3) := by decide +kernel
theorem dX3_loop_18 : decode cX3_loop 18 = .ok (.istore_n 2, 1) := by decide +kernel
theorem dX3_loop_19 : decode cX3_loop 19 = .ok (.aload_n 0, 1) := by decide +kernel
theorem dX3_loop_20 : decode cX3_loop 20 = .ok (.bipush 40, 2) := by decide +kernel
theorem dX3_loop_22 : decode cX3_loop 22 = .ok (.invokevirtual 73, 3) := by decide +kernel
theorem dX3_loop_25 : decode cX3_loop 25 = .ok (.ifCond .eq 22, 3) := by decide +kernel
theorem dX3_loop_28 : decode cX3_loop 28 = .ok (.aload_n 0, 1) := by decide +kernel
theorem dX3_loop_29 : decode cX3_loop 29 = .ok (.iload_n 1, 1) := by decide +kernel
theorem dX3_loop_30 : decode cX3_loop 30 = .ok (.iconst 1, 1) := by decide +kernel
theorem dX3_loop_31 : decode cX3_loop 31 = .ok (.iadd, 1) := by decide +kernel
theorem dX3_loop_32 : decode cX3_loop 32 = .ok (.invokevirtual 106, 3) := by decide +kernel
theorem dX3_loop_35 : decode cX3_loop 35 = .ok (.ifCond .eq 12, 3) := by decide +kernel
theorem dX3_loop_38 : decode cX3_loop 38 = .ok (.aload_n 0, 1) := by decide +kernel
theorem dX3_loop_39 : decode cX3_loop 39 = .ok (.bipush 41, 2) := by decide +kernel
theorem dX3_loop_41 : decode cX3_loop 41 = .ok (.invokevirtual 73, 3) := by decide +kernel
theorem dX3_loop_44 : decode cX3_loop 44 = .ok (.ifCond .ne 5, 3) := by decide +kernel
theorem dX3_loop_47 : decode cX3_loop 47 = .ok (.iconst 0, 1) := by decide +kernel
theorem dX3_loop_48 : decode cX3_loop 48 = .ok (.ireturn, 1) := by decide +kernel
theorem dX3_loop_49 : decode cX3_loop 49 = .ok (.aload_n 0, 1) := by decide +kernel
theorem dX3_loop_50 : decode cX3_loop 50 = .ok (.getfield 18, 3) := by decide +kernel
theorem dX3_loop_53 : decode cX3_loop 53 = .ok (.iconst 4, 1) := by decide +kernel
theorem dX3_loop_54 : decode cX3_loop 54 = .ok (.iconst 0, 1) := by decide +kernel
theorem dX3_loop_55 : decode cX3_loop 55 = .ok (.iconst 0, 1) := by decide +kernel
theorem dX3_loop_56 : decode cX3_loop 56 = .ok (.invokevirtual 57, 3) := by decide +kernel
theorem dX3_loop_59 : decode cX3_loop 59 = .ok (.istore_n 3, 1) := by decide +kernel
theorem dX3_loop_60 : decode cX3_loop 60 = .ok (.aload_n 0, 1) := by decide +kernel
theorem dX3_loop_61 : decode cX3_loop 61 = .ok (.iload_n 1, 1) := by decide +kernel
theorem dX3_loop_62 : decode cX3_loop 62 = .ok (.iconst 1, 1) := by decide +kernel
theorem dX3_loop_63 : decode cX3_loop 63 = .ok (.iadd, 1) := by decide +kernel
theorem dX3_loop_64 : decode cX3_loop 64 = .ok (.invokevirtual 49, 3) := by decide +kernel
theorem dX3_loop_67 : decode cX3_loop 67 = .ok (.ifCond .ne 5, 3) := by decide +kernel
theorem dX3_loop_70 : decode cX3_loop 70 = .ok (.iconst 0, 1) := by decide +kernel
theorem dX3_loop_71 : decode cX3_loop 71 = .ok (.ireturn, 1) := by decide +kernel
theorem dX3_loop_72 : decode cX3_loop 72 = .ok (.aload_n 0, 1) := by decide +kernel
theorem dX3_loop_73 : decode cX3_loop 73 = .ok (.getfield 18, 3) := by decide +kernel
theorem dX3_loop_76 : decode cX3_loop 76 = .ok (.iconst 3, 1) := by decide +kernel
theorem dX3_loop_77 : decode cX3_loop 77 = .ok (.iload_n 2, 1) := by decide +kernel
theorem dX3_loop_78 : decode cX3_loop 78 = .ok (.iconst 0, 1) := by decide +kernel
theorem dX3_loop_79 : decode cX3_loop 79 = .ok (.invokevirtual 57, 3) := by decide +kernel
theorem dX3_loop_82 : decode cX3_loop 82 = .ok (.pop, 1) := by decide +kernel
theorem dX3_loop_83 : decode cX3_loop 83 = .ok (.aload_n 0, 1) := by decide +kernel
theorem dX3_loop_84 : decode cX3_loop 84 = .ok (.getfield 18, 3) := by decide +kernel
theorem dX3_loop_87 : decode cX3_loop 87 = .ok (.iload_n 3, 1) := by decide +kernel
theorem dX3_loop_88 : decode cX3_loop 88 = .ok (.aload_n 0, 1) := by decide +kernel
theorem dX3_loop_89 : decode cX3_loop 89 = .ok (.getfield 18, 3) := by decide +kernel
theorem dX3_loop_92 : decode cX3_loop 92 = .ok (.getfield 109, 3) := by decide +kernel
theorem dX3_loop_95 : decode cX3_loop 95 = .ok (.invokevirtual 112, 3) := by decide +kernel
theorem dX3_loop_98 : decode cX3_loop 98 = .ok (.iconst 1, 1) := by decide +kernel
theorem dX3_loop_99 : decode cX3_loop 99 = .ok (.ireturn, 1) := by decide +kernel
theorem dX3_block_0 : decode cX3_block 0 = .ok (.aload_n 0, 1) := by decide +kernel
theorem dX3_block_1 : decode cX3_block 1 = .ok (.getfield 12, 3) := by decide +kernel
theorem dX3_block_4 : decode cX3_block 4 = .ok (.getfield 116, 3) := by decide +kernel
theorem dX3_block_7 : decode cX3_block 7 = .ok (.istore_n 2, 1) := by decide +kernel
theorem dX3_block_8 : decode cX3_block 8 = .ok (.aload_n 0, 1) := by decide +kernel
theorem dX3_block_9 : decode cX3_block 9 = .ok (.getfield 12, 3) := by decide +kernel
theorem dX3_block_12 : decode cX3_block 12 = .ok (.getfield 119, 3) := by decide +kernel
theorem dX3_block_15 : decode cX3_block 15 = .ok (.istore_n 3, 1) := by decide +kernel
theorem dX3_block_16 : decode cX3_block 16 = .ok (.aload_n 0, 1) := by decide +kernel
theorem dX3_block_17 : decode cX3_block 17 = .ok (.getfield 18, 3) := by decide +kernel
theorem dX3_block_20 : decode cX3_block 20 = .ok (.iconst 2, 1) := by decide +kernel
theorem dX3_block_21 : decode cX3_block 21 = .ok (.iload_n 3, 1) := by decide +kernel
theorem dX3_block_22 : decode cX3_block 22 = .ok (.iconst 0, 1) := by decide +kernel
theorem dX3_block_23 : decode cX3_block 23 = .ok (.invokevirtual 57, 3) := by decide +kernel
theorem dX3_block_26 : decode cX3_block 26 = .ok (.istore 4, 2) := by decide +kernel
theorem dX3_block_28 : decode cX3_block 28 = .ok (.aload_n 0, 1) := by decide +kernel
theorem dX3_block_29 : decode cX3_block 29 = .ok (.iload_n 1, 1) := by decide +kernel
theorem dX3_block_30 : decode cX3_block 30 = .ok (.iload_n 2, 1) := by decide +kernel
theorem dX3_block_31 : decode cX3_block 31 = .ok (.invokevirtual 122, 3) := by decide +kernel
theorem dX3_block_34 : decode cX3_block 34 = .ok (.ifCond .ne 5, 3) := by decide +kernel
theorem dX3_block_37 : decode cX3_block 37 = .ok (.iconst 0, 1) := by decide +kernel
theorem dX3_block_38 : decode cX3_block 38 = .ok (.ireturn, 1) := by decide +kernel
theorem dX3_block_39 : decode cX3_block 39 = .ok (.aload_n 0, 1) := by decide +kernel
theorem dX3_block_40 : decode cX3_block 40 = .ok (.getfield 18, 3) := by decide +kernel
theorem dX3_block_43 : decode cX3_block 43 = .ok (.iload 4, 2) := by decide +kernel
theorem dX3_block_45 : decode cX3_block 45 = .ok (.aload_n 0, 1) := by decide +kernel
theorem dX3_block_46 : decode cX3_block 46 = .ok (.getfield 12, 3) := by decide +kernel
theorem dX3_block_49 : decode cX3_block 49 = .ok (.getfield 119, 3) := by decide +kernel
theorem dX3_block_52 : decode cX3_block 52 = .ok (.iload_n 3, 1) := by decide +kernel
theorem dX3_block_53 : decode cX3_block 53 = .ok (.isub, 1) := by decide +kernel
theorem dX3_block_54 : decode cX3_block 54 = .ok (.invokevirtual 125, 3) := by decide +kernel
theorem dX3_block_57 : decode cX3_block 57 = .ok (.iconst 0, 1) := by decide +kernel
theorem dX3_block_58 : decode cX3_block 58 = .ok (.istore 5, 2) := by decide +kernel
theorem dX3_block_60 : decode cX3_block 60 = .ok (.iload 5, 2) := by decide +kernel
theorem dX3_block_62 : decode cX3_block 62 = .ok (.sipush 320, 3) := by decide +kernel
theorem dX3_block_65 : decode cX3_block 65 = .ok (.if_icmp .gt 40, 3) := by decide +kernel
theorem dX3_block_68 : decode cX3_block 68 = .ok (.aload_n 0, 1) := by decide +kernel
theorem dX3_block_69 : decode cX3_block 69 = .ok (.bipush 125, 2) := by decide +kernel
theorem dX3_block_71 : decode cX3_block 71 = .ok (.invokevirtual 73, 3) := by decide +kernel
theorem dX3_block_74 : decode cX3_block 74 = .ok (.ifCond .eq 13, 3) := by decide +kernel
theorem dX3_block_77 : decode cX3_block 77 = .ok (.aload_n 0, 1) := by decide +kernel
theorem dX3_block_78 : decode cX3_block 78 = .ok (.getfield 12, 3) := by decide +kernel
theorem dX3_block_81 : decode cX3_block 81 = .ok (.iload_n 2, 1) := by decide +kernel
theorem dX3_block_82 : decode cX3_block 82 = .ok (.putfield 116, 3) := by decide +kernel
theorem dX3_block_85 : decode cX3_block 85 = .ok (.iconst 1, 1) := by decide +kernel
theorem dX3_block_86 : decode cX3_block 86 = .ok (.ireturn, 1) := by decide +kernel
theorem dX3_block_87 : decode cX3_block 87 = .ok (.aload_n 0, 1) := by decide +kernel
theorem dX3_block_88 : decode cX3_block 88 = .ok (.iload_n 1, 1) := by decide +kernel
theorem dX3_block_89 : decode cX3_block 89 = .ok (.iconst 1, 1) := by decide +kernel
theorem dX3_block_90 : decode cX3_block 90 = .ok (.iadd, 1) := by decide +kernel
theorem dX3_block_91 : decode cX3_block 91 = .ok (.invokevirtual 49, 3) := by decide +kernel
theorem dX3_block_94 : decode cX3_block 94 = .ok (.ifCond .ne 5, 3) := by decide +kernel
theorem dX3_block_97 : decode cX3_block 97 = .ok (.iconst 0, 1) := by decide +kernel
theorem dX3_block_98 : decode cX3_block 98 = .ok (.ireturn, 1) := by decide +kernel
theorem dX3_block_99 : decode cX3_block 99 = .ok (.iinc 5 1, 3) := by decide +kernel
theorem dX3_block_102 : decode cX3_block 102 = .ok (.goto (-42), 3) := by decide +kernel
theorem dX3_block_105 : decode cX3_block 105 = .ok (.iconst 0, 1) := by decide +kernel
theorem dX3_block_106 : decode cX3_block 106 = .ok (.ireturn, 1) := by decide +kernel
theorem dX3_declarations_0 : decode cX3_declarations 0 = .ok (.iconst 0, 1) := by decide +kernel
theorem dX3_declarations_1 : decode cX3_declarations 1 = .ok (.istore_n 3, 1) := by decide +kernel
theorem dX3_declarations_2 : decode cX3_declarations 2 = .ok (.iload_n 3, 1) := by decide +kernel
theorem dX3_declarations_3 : decode cX3_declarations 3 = .ok (.sipush 320, 3) := by decide +kernel
theorem dX3_declarations_6 : decode cX3_declarations 6 = .ok (.if_icmp .gt 50, 3) := by decide +kernel
theorem dX3_declarations_9 : decode cX3_declarations 9 = .ok (.aload_n 0, 1) := by decide +kernel
theorem dX3_declarations_10 : decode cX3_declarations 10 = .ok (.bipush 36, 2) := by decide +kernel
theorem dX3_declarations_12 : decode cX3_declarations 12 = .ok (.invokevirtual 73, 3) := by decide +kernel
theorem dX3_declarations_15 : decode cX3_declarations 15 = .ok (.ifCond .eq 13, 3) := by decide +kernel
theorem dX3_declarations_18 : decode cX3_declarations 18 = .ok (.aload_n 0, 1) := by decide +kernel
theorem dX3_declarations_19 : decode cX3_declarations 19 = .ok (.iload_n 2, 1) := by decide +kernel
theorem dX3_declarations_20 : decode cX3_declarations 20 = .ok (.invokevirtual 128, 3) := by decide +kernel
theorem dX3_declarations_23 : decode cX3_declarations 23 = .ok (.ifCond .ne 27, 3) := by decide +kernel
theorem dX3_declarations_26 : decode cX3_declarations 26 = .ok (.iconst 0, 1) := by decide +kernel
theorem dX3_declarations_27 : decode cX3_declarations 27 = .ok (.ireturn, 1) := by decide +kernel
theorem dX3_declarations_28 : decode cX3_declarations 28 = .ok (.aload_n 0, 1) := by decide +kernel
theorem dX3_declarations_29 : decode cX3_declarations 29 = .ok (.bipush 64, 2) := by decide +kernel
theorem dX3_declarations_31 : decode cX3_declarations 31 = .ok (.invokevirtual 73, 3) := by decide +kernel
theorem dX3_declarations_34 : decode cX3_declarations 34 = .ok (.ifCond .eq 14, 3) := by decide +kernel
theorem dX3_declarations_37 : decode cX3_declarations 37 = .ok (.aload_n 0, 1) := by decide +kernel
theorem dX3_declarations_38 : decode cX3_declarations 38 = .ok (.iload_n 1, 1) := by decide +kernel
theorem dX3_declarations_39 : decode cX3_declarations 39 = .ok (.iload_n 2, 1) := by decide +kernel
theorem dX3_declarations_40 : decode cX3_declarations 40 = .ok (.invokevirtual 131, 3) := by decide +kernel
theorem dX3_declarations_43 : decode cX3_declarations 43 = .ok (.ifCond .ne 7, 3) := by decide +kernel
theorem dX3_declarations_46 : decode cX3_declarations 46 = .ok (.iconst 0, 1) := by decide +kernel
theorem dX3_declarations_47 : decode cX3_declarations 47 = .ok (.ireturn, 1) := by decide +kernel
theorem dX3_declarations_48 : decode cX3_declarations 48 = .ok (.iconst 1, 1) := by decide +kernel
theorem dX3_declarations_49 : decode cX3_declarations 49 = .ok (.ireturn, 1) := by decide +kernel
theorem dX3_declarations_50 : decode cX3_declarations 50 = .ok (.iinc 3 1, 3) := by decide +kernel
theorem dX3_declarations_53 : decode cX3_declarations 53 = .ok (.goto (-51), 3) := by decide +kernel
theorem dX3_declarations_56 : decode cX3_declarations 56 = .ok (.iconst 0, 1) := by decide +kernel
theorem dX3_declarations_57 : decode cX3_declarations 57 = .ok (.ireturn, 1) := by decide +kernel
theorem dX3_variable_0 : decode cX3_variable 0 = .ok (.aload_n 0, 1) := by decide +kernel
theorem dX3_variable_1 : decode cX3_variable 1 = .ok (.invokevirtual 88, 3) := by decide +kernel
theorem dX3_variable_4 : decode cX3_variable 4 = .ok (.istore_n 2, 1) := by decide +kernel
theorem dX3_variable_5 : decode cX3_variable 5 = .ok (.iload_n 2, 1) := by decide +kernel
theorem dX3_variable_6 : decode cX3_variable 6 = .ok (.ifCond .eq 24, 3) := by decide +kernel
theorem dX3_variable_9 : decode cX3_variable 9 = .ok (.aload_n 0, 1) := by decide +kernel
theorem dX3_variable_10 : decode cX3_variable 10 = .ok (.bipush 59, 2) := by decide +kernel
theorem dX3_variable_12 : decode cX3_variable 12 = .ok (.invokevirtual 73, 3) := by decide +kernel
theorem dX3_variable_15 : decode cX3_variable 15 = .ok (.ifCond .eq 15, 3) := by decide +kernel
theorem dX3_variable_18 : decode cX3_variable 18 = .ok (.aload_n 0, 1) := by decide +kernel
theorem dX3_variable_19 : decode cX3_variable 19 = .ok (.getfield 18, 3) := by decide +kernel
theorem dX3_variable_22 : decode cX3_variable 22 = .ok (.getfield 134, 3) := by decide +kernel
theorem dX3_variable_25 : decode cX3_variable 25 = .ok (.bipush 24, 2) := by decide +kernel
theorem dX3_variable_27 : decode cX3_variable 27 = .ok (.if_icmp .lt 5, 3) := by decide +kernel
theorem dX3_variable_30 : decode cX3_variable 30 = .ok (.iconst 0, 1) := by decide +kernel
theorem dX3_variable_31 : decode cX3_variable 31 = .ok (.ireturn, 1) := by decide +kernel
theorem dX3_variable_32 : decode cX3_variable 32 = .ok (.aload_n 0, 1) := by decide +kernel
theorem dX3_variable_33 : decode cX3_variable 33 = .ok (.getfield 18, 3) := by decide +kernel
theorem dX3_variable_36 : decode cX3_variable 36 = .ok (.dup, 1) := by decide +kernel
theorem dX3_variable_37 : decode cX3_variable 37 = .ok (.getfield 134, 3) := by decide +kernel
theorem dX3_variable_40 : decode cX3_variable 40 = .ok (.iconst 1, 1) := by decide +kernel
theorem dX3_variable_41 : decode cX3_variable 41 = .ok (.iadd, 1) := by decide +kernel
theorem dX3_variable_42 : decode cX3_variable 42 = .ok (.putfield 134, 3) := by decide +kernel
theorem dX3_variable_45 : decode cX3_variable 45 = .ok (.aload_n 0, 1) := by decide +kernel
theorem dX3_variable_46 : decode cX3_variable 46 = .ok (.iload_n 2, 1) := by decide +kernel
theorem dX3_variable_47 : decode cX3_variable 47 = .ok (.iconst 0, 1) := by decide +kernel
theorem dX3_variable_48 : decode cX3_variable 48 = .ok (.aload_n 0, 1) := by decide +kernel
theorem dX3_variable_49 : decode cX3_variable 49 = .ok (.getfield 12, 3) := by decide +kernel
theorem dX3_variable_52 : decode cX3_variable 52 = .ok (.getfield 119, 3) := by decide +kernel
theorem dX3_variable_55 : decode cX3_variable 55 = .ok (.iload_n 1, 1) := by decide +kernel
theorem dX3_variable_56 : decode cX3_variable 56 = .ok (.invokevirtual 137, 3) := by decide +kernel
theorem dX3_variable_59 : decode cX3_variable 59 = .ok (.aload_n 0, 1) := by decide +kernel
theorem dX3_variable_60 : decode cX3_variable 60 = .ok (.getfield 12, 3) := by decide +kernel
theorem dX3_variable_63 : decode cX3_variable 63 = .ok (.dup, 1) := by decide +kernel
theorem dX3_variable_64 : decode cX3_variable 64 = .ok (.getfield 119, 3) := by decide +kernel
theorem dX3_variable_67 : decode cX3_variable 67 = .ok (.iconst 1, 1) := by decide +kernel
theorem dX3_variable_68 : decode cX3_variable 68 = .ok (.iadd, 1) := by decide +kernel
theorem dX3_variable_69 : decode cX3_variable 69 = .ok (.putfield 119, 3) := by decide +kernel
theorem dX3_variable_72 : decode cX3_variable 72 = .ok (.iconst 1, 1) := by decide +kernel
theorem dX3_variable_73 : decode cX3_variable 73 = .ok (.ireturn, 1) := by decide +kernel
theorem dX3_procedure_0 : decode cX3_procedure 0 = .ok (.aload_n 0, 1) := by decide +kernel
theorem dX3_procedure_1 : decode cX3_procedure 1 = .ok (.invokevirtual 88, 3) := by decide +kernel
theorem dX3_procedure_4 : decode cX3_procedure 4 = .ok (.istore_n 3, 1) := by decide +kernel
theorem dX3_procedure_5 : decode cX3_procedure 5 = .ok (.iload_n 3, 1) := by decide +kernel
theorem dX3_procedure_6 : decode cX3_procedure 6 = .ok (.ifCond .eq 24, 3) := by decide +kernel
theorem dX3_procedure_9 : decode cX3_procedure 9 = .ok (.aload_n 0, 1) := by decide +kernel
theorem dX3_procedure_10 : decode cX3_procedure 10 = .ok (.bipush 40, 2) := by decide +kernel
theorem dX3_procedure_12 : decode cX3_procedure 12 = .ok (.invokevirtual 73, 3) := by decide +kernel
theorem dX3_procedure_15 : decode cX3_procedure 15 = .ok (.ifCond .eq 15, 3) := by decide +kernel
theorem dX3_procedure_18 : decode cX3_procedure 18 = .ok (.aload_n 0, 1) := by decide +kernel
theorem dX3_procedure_19 : decode cX3_procedure 19 = .ok (.getfield 18, 3) := by decide +kernel
theorem dX3_procedure_22 : decode cX3_procedure 22 = .ok (.getfield 140, 3) := by decide +kernel
theorem dX3_procedure_25 : decode cX3_procedure 25 = .ok (.bipush 16, 2) := by decide +kernel
theorem dX3_procedure_27 : decode cX3_procedure 27 = .ok (.if_icmp .lt 5, 3) := by decide +kernel
theorem dX3_procedure_30 : decode cX3_procedure 30 = .ok (.iconst 0, 1) := by decide +kernel
theorem dX3_procedure_31 : decode cX3_procedure 31 = .ok (.ireturn, 1) := by decide +kernel
theorem dX3_procedure_32 : decode cX3_procedure 32 = .ok (.aload_n 0, 1) := by decide +kernel
theorem dX3_procedure_33 : decode cX3_procedure 33 = .ok (.getfield 18, 3) := by decide +kernel
theorem dX3_procedure_36 : decode cX3_procedure 36 = .ok (.iconst 3, 1) := by decide +kernel
theorem dX3_procedure_37 : decode cX3_procedure 37 = .ok (.iconst 0, 1) := by decide +kernel
theorem dX3_procedure_38 : decode cX3_procedure 38 = .ok (.iconst 0, 1) := by decide +kernel
theorem dX3_procedure_39 : decode cX3_procedure 39 = .ok (.invokevirtual 57, 3) := by decide +kernel
theorem dX3_procedure_42 : decode cX3_procedure 42 = .ok (.istore 4, 2) := by decide +kernel
theorem dX3_procedure_44 : decode cX3_procedure 44 = .ok (.aload_n 0, 1) := by decide +kernel
theorem dX3_procedure_45 : decode cX3_procedure 45 = .ok (.getfield 18, 3) := by decide +kernel
theorem dX3_procedure_48 : decode cX3_procedure 48 = .ok (.invokevirtual 143, 3) := by decide +kernel
theorem dX3_procedure_51 : decode cX3_procedure 51 = .ok (.istore 5, 2) := by decide +kernel
theorem dX3_procedure_53 : decode cX3_procedure 53 = .ok (.aload_n 0, 1) := by decide +kernel
theorem dX3_procedure_54 : decode cX3_procedure 54 = .ok (.iload_n 3, 1) := by decide +kernel
theorem dX3_procedure_55 : decode cX3_procedure 55 = .ok (.iconst 2, 1) := by decide +kernel
theorem dX3_procedure_56 : decode cX3_procedure 56 = .ok (.iload 5, 2) := by decide +kernel
theorem dX3_procedure_58 : decode cX3_procedure 58 = .ok (.iload_n 2, 1) := by decide +kernel
theorem dX3_procedure_59 : decode cX3_procedure 59 = .ok (.invokevirtual 137, 3) := by decide +kernel
theorem dX3_procedure_62 : decode cX3_procedure 62 = .ok (.aload_n 0, 1) := by decide +kernel
theorem dX3_procedure_63 : decode cX3_procedure 63 = .ok (.getfield 12, 3) := by decide +kernel
theorem dX3_procedure_66 : decode cX3_procedure 66 = .ok (.getfield 116, 3) := by decide +kernel
theorem dX3_procedure_69 : decode cX3_procedure 69 = .ok (.istore 6, 2) := by decide +kernel
theorem dX3_procedure_71 : decode cX3_procedure 71 = .ok (.aload_n 0, 1) := by decide +kernel
theorem dX3_procedure_72 : decode cX3_procedure 72 = .ok (.getfield 12, 3) := by decide +kernel
theorem dX3_procedure_75 : decode cX3_procedure 75 = .ok (.getfield 119, 3) := by decide +kernel
theorem dX3_procedure_78 : decode cX3_procedure 78 = .ok (.istore 7, 2) := by decide +kernel
theorem dX3_procedure_80 : decode cX3_procedure 80 = .ok (.aload_n 0, 1) := by decide +kernel
theorem dX3_procedure_81 : decode cX3_procedure 81 = .ok (.getfield 12, 3) := by decide +kernel
theorem dX3_procedure_84 : decode cX3_procedure 84 = .ok (.iload 5, 2) := by decide +kernel
theorem dX3_procedure_86 : decode cX3_procedure 86 = .ok (.invokevirtual 146, 3) := by decide +kernel
theorem dX3_procedure_89 : decode cX3_procedure 89 = .ok (.aload_n 0, 1) := by decide +kernel
theorem dX3_procedure_90 : decode cX3_procedure 90 = .ok (.iload 5, 2) := by decide +kernel
theorem dX3_procedure_92 : decode cX3_procedure 92 = .ok (.invokevirtual 149, 3) := by decide +kernel
theorem dX3_procedure_95 : decode cX3_procedure 95 = .ok (.ifCond .eq 13, 3) := by decide +kernel
theorem dX3_procedure_98 : decode cX3_procedure 98 = .ok (.aload_n 0, 1) := by decide +kernel
theorem dX3_procedure_99 : decode cX3_procedure 99 = .ok (.iload_n 1, 1) := by decide +kernel
theorem dX3_procedure_100 : decode cX3_procedure 100 = .ok (.iconst 1, 1) := by decide +kernel
theorem dX3_procedure_101 : decode cX3_procedure 101 = .ok (.iadd, 1) := by decide +kernel
theorem dX3_procedure_102 : decode cX3_procedure 102 = .ok (.invokevirtual 49, 3) := by decide +kernel
theorem dX3_procedure_105 : decode cX3_procedure 105 = .ok (.ifCond .ne 5, 3) := by decide +kernel
theorem dX3_procedure_108 : decode cX3_procedure 108 = .ok (.iconst 0, 1) := by decide +kernel
theorem dX3_procedure_109 : decode cX3_procedure 109 = .ok (.ireturn, 1) := by decide +kernel
theorem dX3_procedure_110 : decode cX3_procedure 110 = .ok (.aload_n 0, 1) := by decide +kernel
theorem dX3_procedure_111 : decode cX3_procedure 111 = .ok (.getfield 12, 3) := by decide +kernel
theorem dX3_procedure_114 : decode cX3_procedure 114 = .ok (.dup, 1) := by decide +kernel
theorem dX3_procedure_115 : decode cX3_procedure 115 = .ok (.getfield 152, 3) := by decide +kernel
theorem dX3_procedure_118 : decode cX3_procedure 118 = .ok (.iconst 1, 1) := by decide +kernel
theorem dX3_procedure_119 : decode cX3_procedure 119 = .ok (.isub, 1) := by decide +kernel
theorem dX3_procedure_120 : decode cX3_procedure 120 = .ok (.putfield 152, 3) := by decide +kernel
theorem dX3_procedure_123 : decode cX3_procedure 123 = .ok (.aload_n 0, 1) := by decide +kernel
theorem dX3_procedure_124 : decode cX3_procedure 124 = .ok (.getfield 12, 3) := by decide +kernel
theorem dX3_procedure_127 : decode cX3_procedure 127 = .ok (.iload 7, 2) := by decide +kernel
theorem dX3_procedure_129 : decode cX3_procedure 129 = .ok (.putfield 119, 3) := by decide +kernel
theorem dX3_procedure_132 : decode cX3_procedure 132 = .ok (.aload_n 0, 1) := by decide +kernel
theorem dX3_procedure_133 : decode cX3_procedure 133 = .ok (.getfield 12, 3) := by decide +kernel
theorem dX3_procedure_136 : decode cX3_procedure 136 = .ok (.iload 6, 2) := by decide +kernel
theorem dX3_procedure_138 : decode cX3_procedure 138 = .ok (.putfield 116, 3) := by decide +kernel
theorem dX3_procedure_141 : decode cX3_procedure 141 = .ok (.aload_n 0, 1) := by decide +kernel
theorem dX3_procedure_142 : decode cX3_procedure 142 = .ok (.getfield 18, 3) := by decide +kernel
theorem dX3_procedure_145 : decode cX3_procedure 145 = .ok (.bipush 17, 2) := by decide +kernel
theorem dX3_procedure_147 : decode cX3_procedure 147 = .ok (.iconst 0, 1) := by decide +kernel
theorem dX3_procedure_148 : decode cX3_procedure 148 = .ok (.iconst 0, 1) := by decide +kernel
theorem dX3_procedure_149 : decode cX3_procedure 149 = .ok (.invokevirtual 57, 3) := by decide +kernel
theorem dX3_procedure_152 : decode cX3_procedure 152 = .ok (.pop, 1) := by decide +kernel
theorem dX3_procedure_153 : decode cX3_procedure 153 = .ok (.aload_n 0, 1) := by decide +kernel
theorem dX3_procedure_154 : decode cX3_procedure 154 = .ok (.getfield 18, 3) := by decide +kernel
theorem dX3_procedure_157 : decode cX3_procedure 157 = .ok (.iload 4, 2) := by decide +kernel
theorem dX3_procedure_159 : decode cX3_procedure 159 = .ok (.aload_n 0, 1) := by decide +kernel
theorem dX3_procedure_160 : decode cX3_procedure 160 = .ok (.getfield 18, 3) := by decide +kernel
theorem dX3_procedure_163 : decode cX3_procedure 163 = .ok (.getfield 109, 3) := by decide +kernel
theorem dX3_procedure_166 : decode cX3_procedure 166 = .ok (.invokevirtual 112, 3) := by decide +kernel
theorem dX3_procedure_169 : decode cX3_procedure 169 = .ok (.iconst 1, 1) := by decide +kernel
theorem dX3_procedure_170 : decode cX3_procedure 170 = .ok (.ireturn, 1) := by decide +kernel
theorem dX3_formals_0 : decode cX3_formals 0 = .ok (.aload_n 0, 1) := by decide +kernel
theorem dX3_formals_1 : decode cX3_formals 1 = .ok (.bipush 41, 2) := by decide +kernel
theorem dX3_formals_3 : decode cX3_formals 3 = .ok (.invokevirtual 73, 3) := by decide +kernel
theorem dX3_formals_6 : decode cX3_formals 6 = .ok (.ifCond .eq 5, 3) := by decide +kernel
theorem dX3_formals_9 : decode cX3_formals 9 = .ok (.iconst 1, 1) := by decide +kernel
theorem dX3_formals_10 : decode cX3_formals 10 = .ok (.ireturn, 1) := by decide +kernel
theorem dX3_formals_11 : decode cX3_formals 11 = .ok (.aload_n 0, 1) := by decide +kernel
theorem dX3_formals_12 : decode cX3_formals 12 = .ok (.getfield 12, 3) := by decide +kernel
theorem dX3_formals_15 : decode cX3_formals 15 = .ok (.getfield 116, 3) := by decide +kernel
theorem dX3_formals_18 : decode cX3_formals 18 = .ok (.istore_n 2, 1) := by decide +kernel
theorem dX3_formals_19 : decode cX3_formals 19 = .ok (.iconst 0, 1) := by decide +kernel
theorem dX3_formals_20 : decode cX3_formals 20 = .ok (.istore_n 3, 1) := by decide +kernel
theorem dX3_formals_21 : decode cX3_formals 21 = .ok (.iload_n 3, 1) := by decide +kernel
theorem dX3_formals_22 : decode cX3_formals 22 = .ok (.bipush 6, 2) := by decide +kernel
theorem dX3_formals_24 : decode cX3_formals 24 = .ok (.if_icmp .ge 118, 3) := by decide +kernel
theorem dX3_formals_27 : decode cX3_formals 27 = .ok (.aload_n 0, 1) := by decide +kernel
theorem dX3_formals_28 : decode cX3_formals 28 = .ok (.bipush 35, 2) := by decide +kernel
theorem dX3_formals_30 : decode cX3_formals 30 = .ok (.invokevirtual 73, 3) := by decide +kernel
theorem dX3_formals_33 : decode cX3_formals 33 = .ok (.istore 4, 2) := by decide +kernel
theorem dX3_formals_35 : decode cX3_formals 35 = .ok (.aload_n 0, 1) := by decide +kernel
theorem dX3_formals_36 : decode cX3_formals 36 = .ok (.invokevirtual 88, 3) := by decide +kernel
theorem dX3_formals_39 : decode cX3_formals 39 = .ok (.istore 5, 2) := by decide +kernel
theorem dX3_formals_41 : decode cX3_formals 41 = .ok (.iload 5, 2) := by decide +kernel
theorem dX3_formals_43 : decode cX3_formals 43 = .ok (.ifCond .ne 5, 3) := by decide +kernel
theorem dX3_formals_46 : decode cX3_formals 46 = .ok (.iconst 0, 1) := by decide +kernel
theorem dX3_formals_47 : decode cX3_formals 47 = .ok (.ireturn, 1) := by decide +kernel
theorem dX3_formals_48 : decode cX3_formals 48 = .ok (.iconst 1, 1) := by decide +kernel
theorem dX3_formals_49 : decode cX3_formals 49 = .ok (.iload_n 3, 1) := by decide +kernel
theorem dX3_formals_50 : decode cX3_formals 50 = .ok (.iadd, 1) := by decide +kernel
theorem dX3_formals_51 : decode cX3_formals 51 = .ok (.istore 6, 2) := by decide +kernel
theorem dX3_formals_53 : decode cX3_formals 53 = .ok (.aload_n 0, 1) := by decide +kernel
theorem dX3_formals_54 : decode cX3_formals 54 = .ok (.iload 5, 2) := by decide +kernel
theorem dX3_formals_56 : decode cX3_formals 56 = .ok (.iload 4, 2) := by decide +kernel
theorem dX3_formals_58 : decode cX3_formals 58 = .ok (.ifCond .eq 7, 3) := by decide +kernel
theorem dX3_formals_61 : decode cX3_formals 61 = .ok (.iconst 0, 1) := by decide +kernel
theorem dX3_formals_62 : decode cX3_formals 62 = .ok (.goto 4, 3) := by decide +kernel
theorem dX3_formals_65 : decode cX3_formals 65 = .ok (.iconst 1, 1) := by decide +kernel
theorem dX3_formals_66 : decode cX3_formals 66 = .ok (.iload 6, 2) := by decide +kernel
theorem dX3_formals_68 : decode cX3_formals 68 = .ok (.iload_n 2, 1) := by decide +kernel
theorem dX3_formals_69 : decode cX3_formals 69 = .ok (.invokevirtual 137, 3) := by decide +kernel
theorem dX3_formals_72 : decode cX3_formals 72 = .ok (.aload_n 0, 1) := by decide +kernel
theorem dX3_formals_73 : decode cX3_formals 73 = .ok (.getfield 18, 3) := by decide +kernel
theorem dX3_formals_76 : decode cX3_formals 76 = .ok (.iload_n 1, 1) := by decide +kernel
theorem dX3_formals_77 : decode cX3_formals 77 = .ok (.iload_n 3, 1) := by decide +kernel
theorem dX3_formals_78 : decode cX3_formals 78 = .ok (.iconst 1, 1) := by decide +kernel
theorem dX3_formals_79 : decode cX3_formals 79 = .ok (.iadd, 1) := by decide +kernel
theorem dX3_formals_80 : decode cX3_formals 80 = .ok (.invokevirtual 155, 3) := by decide +kernel
theorem dX3_formals_83 : decode cX3_formals 83 = .ok (.iload 4, 2) := by decide +kernel
theorem dX3_formals_85 : decode cX3_formals 85 = .ok (.ifCond .eq 29, 3) := by decide +kernel
theorem dX3_formals_88 : decode cX3_formals 88 = .ok (.aload_n 0, 1) := by decide +kernel
theorem dX3_formals_89 : decode cX3_formals 89 = .ok (.getfield 18, 3) := by decide +kernel
theorem dX3_formals_92 : decode cX3_formals 92 = .ok (.bipush 12, 2) := by decide +kernel
theorem dX3_formals_94 : decode cX3_formals 94 = .ok (.iload 6, 2) := by decide +kernel
theorem dX3_formals_96 : decode cX3_formals 96 = .ok (.iconst 0, 1) := by decide +kernel
theorem dX3_formals_97 : decode cX3_formals 97 = .ok (.invokevirtual 57, 3) := by decide +kernel
theorem dX3_formals_100 : decode cX3_formals 100 = .ok (.pop, 1) := by decide +kernel
theorem dX3_formals_101 : decode cX3_formals 101 = .ok (.aload_n 0, 1) := by decide +kernel
theorem dX3_formals_102 : decode cX3_formals 102 = .ok (.getfield 18, 3) := by decide +kernel
theorem dX3_formals_105 : decode cX3_formals 105 = .ok (.bipush 16, 2) := by decide +kernel
theorem dX3_formals_107 : decode cX3_formals 107 = .ok (.iload 6, 2) := by decide +kernel
theorem dX3_formals_109 : decode cX3_formals 109 = .ok (.iconst 0, 1) := by decide +kernel
theorem dX3_formals_110 : decode cX3_formals 110 = .ok (.invokevirtual 57, 3) := by decide +kernel
theorem dX3_formals_113 : decode cX3_formals 113 = .ok (.pop, 1) := by decide +kernel
theorem dX3_formals_114 : decode cX3_formals 114 = .ok (.aload_n 0, 1) := by decide +kernel
theorem dX3_formals_115 : decode cX3_formals 115 = .ok (.bipush 41, 2) := by decide +kernel
theorem dX3_formals_117 : decode cX3_formals 117 = .ok (.invokevirtual 73, 3) := by decide +kernel
theorem dX3_formals_120 : decode cX3_formals 120 = .ok (.ifCond .eq 5, 3) := by decide +kernel
theorem dX3_formals_123 : decode cX3_formals 123 = .ok (.iconst 1, 1) := by decide +kernel
theorem dX3_formals_124 : decode cX3_formals 124 = .ok (.ireturn, 1) := by decide +kernel
theorem dX3_formals_125 : decode cX3_formals 125 = .ok (.aload_n 0, 1) := by decide +kernel
theorem dX3_formals_126 : decode cX3_formals 126 = .ok (.bipush 44, 2) := by decide +kernel
theorem dX3_formals_128 : decode cX3_formals 128 = .ok (.invokevirtual 73, 3) := by decide +kernel
theorem dX3_formals_131 : decode cX3_formals 131 = .ok (.ifCond .ne 5, 3) := by decide +kernel
theorem dX3_formals_134 : decode cX3_formals 134 = .ok (.iconst 0, 1) := by decide +kernel
theorem dX3_formals_135 : decode cX3_formals 135 = .ok (.ireturn, 1) := by decide +kernel
