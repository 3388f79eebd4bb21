theorem dX5_init_0 : decode cX5_init 0 = .ok (.aload_n 0, 1) := by decide +kernel
theorem dX5_init_1 : decode cX5_init 1 = .ok (.invokespecial 3, 3) := by decide +kernel
theorem dX5_init_4 : decode cX5_init 4 = .ok (.aload_n 0, 1) := by decide +kernel
theorem dX5_init_5 : decode cX5_init 5 = .ok (.sipush 320, 3) := by decide +kernel
theorem dX5_init_8 : decode cX5_init 8 = .ok (.newarray .char, 2) := by decide +kernel
theorem dX5_init_10 : decode cX5_init 10 = .ok (.putfield 9, 3) := by decide +kernel
theorem dX5_init_13 : decode cX5_init 13 = .ok (.aload_n 0, 1) := by decide +kernel
theorem dX5_init_14 : decode cX5_init 14 = .ok (.iconst 0, 1) := by decide +kernel
theorem dX5_init_15 : decode cX5_init 15 = .ok (.putfield 13, 3) := by decide +kernel
theorem dX5_init_18 : decode cX5_init 18 = .ok (.aload_n 0, 1) := by decide +kernel
theorem dX5_init_19 : decode cX5_init 19 = .ok (.new 17, 3) := by decide +kernel
theorem dX5_init_22 : decode cX5_init 22 = .ok (.dup, 1) := by decide +kernel
theorem dX5_init_23 : decode cX5_init 23 = .ok (.invokespecial 19, 3) := by decide +kernel
theorem dX5_init_26 : decode cX5_init 26 = .ok (.putfield 20, 3) := by decide +kernel
theorem dX5_init_29 : decode cX5_init 29 = .ok (.aload_n 0, 1) := by decide +kernel
theorem dX5_init_30 : decode cX5_init 30 = .ok (.new 24, 3) := by decide +kernel
theorem dX5_init_33 : decode cX5_init 33 = .ok (.dup, 1) := by decide +kernel
theorem dX5_init_34 : decode cX5_init 34 = .ok (.invokespecial 26, 3) := by decide +kernel
theorem dX5_init_37 : decode cX5_init 37 = .ok (.putfield 27, 3) := by decide +kernel
theorem dX5_init_40 : decode cX5_init 40 = .ok (.aload_n 0, 1) := by decide +kernel
theorem dX5_init_41 : decode cX5_init 41 = .ok (.new 31, 3) := by decide +kernel
theorem dX5_init_44 : decode cX5_init 44 = .ok (.dup, 1) := by decide +kernel
theorem dX5_init_45 : decode cX5_init 45 = .ok (.invokespecial 33, 3) := by decide +kernel
theorem dX5_init_48 : decode cX5_init 48 = .ok (.putfield 34, 3) := by decide +kernel
theorem dX5_init_51 : decode cX5_init 51 = .ok (.aload_n 0, 1) := by decide +kernel
theorem dX5_init_52 : decode cX5_init 52 = .ok (.new 31, 3) := by decide +kernel
theorem dX5_init_55 : decode cX5_init 55 = .ok (.dup, 1) := by decide +kernel
theorem dX5_init_56 : decode cX5_init 56 = .ok (.invokespecial 33, 3) := by decide +kernel
theorem dX5_init_59 : decode cX5_init 59 = .ok (.putfield 38, 3) := by decide +kernel
theorem dX5_init_62 : decode cX5_init 62 = .ok (.aload_n 0, 1) := by decide +kernel
theorem dX5_init_63 : decode cX5_init 63 = .ok (.iconst 0, 1) := by decide +kernel
theorem dX5_init_64 : decode cX5_init 64 = .ok (.putfield 41, 3) := by decide +kernel
theorem dX5_init_67 : decode cX5_init 67 = .ok (.return_, 1) := by decide +kernel
theorem dX5_write_0 : decode cX5_write 0 = .ok (.iconst 0, 1) := by decide +kernel
theorem dX5_write_1 : decode cX5_write 1 = .ok (.istore_n 3, 1) := by decide +kernel
theorem dX5_write_2 : decode cX5_write 2 = .ok (.iconst 0, 1) := by decide +kernel
theorem dX5_write_3 : decode cX5_write 3 = .ok (.istore 4, 2) := by decide +kernel
theorem dX5_write_5 : decode cX5_write 5 = .ok (.iload 4, 2) := by decide +kernel
theorem dX5_write_7 : decode cX5_write 7 = .ok (.bipush 8, 2) := by decide +kernel
theorem dX5_write_9 : decode cX5_write 9 = .ok (.if_icmp .ge 37, 3) := by decide +kernel
theorem dX5_write_12 : decode cX5_write 12 = .ok (.lload_n 1, 1) := by decide +kernel
theorem dX5_write_13 : decode cX5_write 13 = .ok (.iload 4, 2) := by decide +kernel
theorem dX5_write_15 : decode cX5_write 15 = .ok (.invokestatic 45, 3) := by decide +kernel
theorem dX5_write_18 : decode cX5_write 18 = .ok (.istore 5, 2) := by decide +kernel
theorem dX5_write_20 : decode cX5_write 20 = .ok (.iload 5, 2) := by decide +kernel
theorem dX5_write_22 : decode cX5_write 22 = .ok (.ifCond .ne 6, 3) := by decide +kernel
theorem dX5_write_25 : decode cX5_write 25 = .ok (.goto 21, 3) := by decide +kernel
theorem dX5_write_28 : decode cX5_write 28 = .ok (.iload 5, 2) := by decide +kernel
theorem dX5_write_30 : decode cX5_write 30 = .ok (.bipush 127, 2) := by decide +kernel
theorem dX5_write_32 : decode cX5_write 32 = .ok (.if_icmp .le 5, 3) := by decide +kernel
theorem dX5_write_35 : decode cX5_write 35 = .ok (.iconst (-1), 1) := by decide +kernel
theorem dX5_write_36 : decode cX5_write 36 = .ok (.ireturn, 1) := by decide +kernel
theorem dX5_write_37 : decode cX5_write 37 = .ok (.iinc 3 1, 3) := by decide +kernel
theorem dX5_write_40 : decode cX5_write 40 = .ok (.iinc 4 1, 3) := by decide +kernel
theorem dX5_write_43 : decode cX5_write 43 = .ok (.goto (-38), 3) := by decide +kernel
theorem dX5_write_46 : decode cX5_write 46 = .ok (.aload_n 0, 1) := by decide +kernel
theorem dX5_write_47 : decode cX5_write 47 = .ok (.getfield 13, 3) := by decide +kernel
theorem dX5_write_50 : decode cX5_write 50 = .ok (.iload_n 3, 1) := by decide +kernel
theorem dX5_write_51 : decode cX5_write 51 = .ok (.iadd, 1) := by decide +kernel
theorem dX5_write_52 : decode cX5_write 52 = .ok (.sipush 320, 3) := by decide +kernel
theorem dX5_write_55 : decode cX5_write 55 = .ok (.if_icmp .le 5, 3) := by decide +kernel
theorem dX5_write_58 : decode cX5_write 58 = .ok (.iconst (-1), 1) := by decide +kernel
theorem dX5_write_59 : decode cX5_write 59 = .ok (.ireturn, 1) := by decide +kernel
theorem dX5_write_60 : decode cX5_write 60 = .ok (.iconst 0, 1) := by decide +kernel
theorem dX5_write_61 : decode cX5_write 61 = .ok (.istore 4, 2) := by decide +kernel
theorem dX5_write_63 : decode cX5_write 63 = .ok (.iload 4, 2) := by decide +kernel
theorem dX5_write_65 : decode cX5_write 65 = .ok (.iload_n 3, 1) := by decide +kernel
theorem dX5_write_66 : decode cX5_write 66 = .ok (.if_icmp .ge 28, 3) := by decide +kernel
theorem dX5_write_69 : decode cX5_write 69 = .ok (.aload_n 0, 1) := by decide +kernel
theorem dX5_write_70 : decode cX5_write 70 = .ok (.getfield 9, 3) := by decide +kernel
theorem dX5_write_73 : decode cX5_write 73 = .ok (.aload_n 0, 1) := by decide +kernel
theorem dX5_write_74 : decode cX5_write 74 = .ok (.getfield 13, 3) := by decide +kernel
theorem dX5_write_77 : decode cX5_write 77 = .ok (.iload 4, 2) := by decide +kernel
theorem dX5_write_79 : decode cX5_write 79 = .ok (.iadd, 1) := by decide +kernel
theorem dX5_write_80 : decode cX5_write 80 = .ok (.lload_n 1, 1) := by decide +kernel
theorem dX5_write_81 : decode cX5_write 81 = .ok (.iload 4, 2) := by decide +kernel
theorem dX5_write_83 : decode cX5_write 83 = .ok (.invokestatic 45, 3) := by decide +kernel
theorem dX5_write_86 : decode cX5_write 86 = .ok (.i2c, 1) := by decide +kernel
theorem dX5_write_87 : decode cX5_write 87 = .ok (.castore, 1) := by decide +kernel
theorem dX5_write_88 : decode cX5_write 88 = .ok (.iinc 4 1, 3) := by decide +kernel
theorem dX5_write_91 : decode cX5_write 91 = .ok (.goto (-28), 3) := by decide +kernel
theorem dX5_write_94 : decode cX5_write 94 = .ok (.aload_n 0, 1) := by decide +kernel
theorem dX5_write_95 : decode cX5_write 95 = .ok (.dup, 1) := by decide +kernel
theorem dX5_write_96 : decode cX5_write 96 = .ok (.getfield 13, 3) := by decide +kernel
theorem dX5_write_99 : decode cX5_write 99 = .ok (.iload_n 3, 1) := by decide +kernel
theorem dX5_write_100 : decode cX5_write 100 = .ok (.iadd, 1) := by decide +kernel
theorem dX5_write_101 : decode cX5_write 101 = .ok (.putfield 13, 3) := by decide +kernel
theorem dX5_write_104 : decode cX5_write 104 = .ok (.iload_n 3, 1) := by decide +kernel
theorem dX5_write_105 : decode cX5_write 105 = .ok (.ireturn, 1) := by decide +kernel
theorem dX5_codeAt_0 : decode cX5_codeAt 0 = .ok (.lload_n 0, 1) := by decide +kernel
theorem dX5_codeAt_1 : decode cX5_codeAt 1 = .ok (.bipush 8, 2) := by decide +kernel
theorem dX5_codeAt_3 : decode cX5_codeAt 3 = .ok (.iload_n 2, 1) := by decide +kernel
theorem dX5_codeAt_4 : decode cX5_codeAt 4 = .ok (.imul, 1) := by decide +kernel
theorem dX5_codeAt_5 : decode cX5_codeAt 5 = .ok (.lushr, 1) := by decide +kernel
theorem dX5_codeAt_6 : decode cX5_codeAt 6 = .ok (.l2i, 1) := by decide +kernel
theorem dX5_codeAt_7 : decode cX5_codeAt 7 = .ok (.sipush 255, 3) := by decide +kernel
theorem dX5_codeAt_10 : decode cX5_codeAt 10 = .ok (.iand, 1) := by decide +kernel
theorem dX5_codeAt_11 : decode cX5_codeAt 11 = .ok (.ireturn, 1) := by decide +kernel
theorem dX5_erase_0 : decode cX5_erase 0 = .ok (.aload_n 0, 1) := by decide +kernel
theorem dX5_erase_1 : decode cX5_erase 1 = .ok (.getfield 13, 3) := by decide +kernel
theorem dX5_erase_4 : decode cX5_erase 4 = .ok (.istore_n 1, 1) := by decide +kernel
theorem dX5_erase_5 : decode cX5_erase 5 = .ok (.aload_n 0, 1) := by decide +kernel
theorem dX5_erase_6 : decode cX5_erase 6 = .ok (.iconst 0, 1) := by decide +kernel
theorem dX5_erase_7 : decode cX5_erase 7 = .ok (.putfield 13, 3) := by decide +kernel
theorem dX5_erase_10 : decode cX5_erase 10 = .ok (.iload_n 1, 1) := by decide +kernel
theorem dX5_erase_11 : decode cX5_erase 11 = .ok (.ireturn, 1) := by decide +kernel
theorem dX5_length_0 : decode cX5_length 0 = .ok (.aload_n 0, 1) := by decide +kernel
theorem dX5_length_1 : decode cX5_length 1 = .ok (.getfield 13, 3) := by decide +kernel
theorem dX5_length_4 : decode cX5_length 4 = .ok (.ireturn, 1) := by decide +kernel
theorem dX5_read_0 : decode cX5_read 0 = .ok (.aload_n 0, 1) := by decide +kernel
theorem dX5_read_1 : decode cX5_read 1 = .ok (.getfield 20, 3) := by decide +kernel
theorem dX5_read_4 : decode cX5_read 4 = .ok (.aload_n 0, 1) := by decide +kernel
theorem dX5_read_5 : decode cX5_read 5 = .ok (.getfield 38, 3) := by decide +kernel
theorem dX5_read_8 : decode cX5_read 8 = .ok (.aload_n 0, 1) := by decide +kernel
theorem dX5_read_9 : decode cX5_read 9 = .ok (.getfield 9, 3) := by decide +kernel
theorem dX5_read_12 : decode cX5_read 12 = .ok (.aload_n 0, 1) := by decide +kernel
theorem dX5_read_13 : decode cX5_read 13 = .ok (.getfield 13, 3) := by decide +kernel
theorem dX5_read_16 : decode cX5_read 16 = .ok (.invokevirtual 49, 3) := by decide +kernel
theorem dX5_read_19 : decode cX5_read 19 = .ok (.istore_n 1, 1) := by decide +kernel
theorem dX5_read_20 : decode cX5_read 20 = .ok (.iload_n 1, 1) := by decide +kernel
theorem dX5_read_21 : decode cX5_read 21 = .ok (.ifCond .ne 26, 3) := by decide +kernel
theorem dX5_read_24 : decode cX5_read 24 = .ok (.aload_n 0, 1) := by decide +kernel
theorem dX5_read_25 : decode cX5_read 25 = .ok (.getfield 34, 3) := by decide +kernel
theorem dX5_read_28 : decode cX5_read 28 = .ok (.astore_n 2, 1) := by decide +kernel
theorem dX5_read_29 : decode cX5_read 29 = .ok (.aload_n 0, 1) := by decide +kernel
theorem dX5_read_30 : decode cX5_read 30 = .ok (.aload_n 0, 1) := by decide +kernel
theorem dX5_read_31 : decode cX5_read 31 = .ok (.getfield 38, 3) := by decide +kernel
theorem dX5_read_34 : decode cX5_read 34 = .ok (.putfield 34, 3) := by decide +kernel
theorem dX5_read_37 : decode cX5_read 37 = .ok (.aload_n 0, 1) := by decide +kernel
theorem dX5_read_38 : decode cX5_read 38 = .ok (.aload_n 2, 1) := by decide +kernel
theorem dX5_read_39 : decode cX5_read 39 = .ok (.putfield 38, 3) := by decide +kernel
theorem dX5_read_42 : decode cX5_read 42 = .ok (.aload_n 0, 1) := by decide +kernel
theorem dX5_read_43 : decode cX5_read 43 = .ok (.iconst 1, 1) := by decide +kernel
theorem dX5_read_44 : decode cX5_read 44 = .ok (.putfield 41, 3) := by decide +kernel
theorem dX5_read_47 : decode cX5_read 47 = .ok (.iload_n 1, 1) := by decide +kernel
theorem dX5_read_48 : decode cX5_read 48 = .ok (.ireturn, 1) := by decide +kernel
theorem dX5_run_0 : decode cX5_run 0 = .ok (.aload_n 0, 1) := by decide +kernel
theorem dX5_run_1 : decode cX5_run 1 = .ok (.getfield 41, 3) := by decide +kernel
theorem dX5_run_4 : decode cX5_run 4 = .ok (.ifCond .ne 5, 3) := by decide +kernel
theorem dX5_run_7 : decode cX5_run 7 = .ok (.iconst (-1), 1) := by decide +kernel
theorem dX5_run_8 : decode cX5_run 8 = .ok (.ireturn, 1) := by decide +kernel
theorem dX5_run_9 : decode cX5_run 9 = .ok (.iload_n 1, 1) := by decide +kernel
theorem dX5_run_10 : decode cX5_run 10 = .ok (.ifCond .lt 10, 3) := by decide +kernel
theorem dX5_run_13 : decode cX5_run 13 = .ok (.iload_n 1, 1) := by decide +kernel
theorem dX5_run_14 : decode cX5_run 14 = .ok (.sipush 1000, 3) := by decide +kernel
theorem dX5_run_17 : decode cX5_run 17 = .ok (.if_icmp .le 6, 3) := by decide +kernel
theorem dX5_run_20 : decode cX5_run 20 = .ok (.bipush (-2), 2) := by decide +kernel
theorem dX5_run_22 : decode cX5_run 22 = .ok (.ireturn, 1) := by decide +kernel
theorem dX5_run_23 : decode cX5_run 23 = .ok (.aload_n 0, 1) := by decide +kernel
theorem dX5_run_24 : decode cX5_run 24 = .ok (.getfield 27, 3) := by decide +kernel
theorem dX5_run_27 : decode cX5_run 27 = .ok (.aload_n 0, 1) := by decide +kernel
theorem dX5_run_28 : decode cX5_run 28 = .ok (.getfield 34, 3) := by decide +kernel
theorem dX5_run_31 : decode cX5_run 31 = .ok (.iload_n 1, 1) := by decide +kernel
theorem dX5_run_32 : decode cX5_run 32 = .ok (.invokevirtual 53, 3) := by decide +kernel
theorem dX5_run_35 : decode cX5_run 35 = .ok (.ireturn, 1) := by decide +kernel
theorem dX5_prints_0 : decode cX5_prints 0 = .ok (.aload_n 0, 1) := by decide +kernel
theorem dX5_prints_1 : decode cX5_prints 1 = .ok (.getfield 27, 3) := by decide +kernel
theorem dX5_prints_4 : decode cX5_prints 4 = .ok (.getfield 57, 3) := by decide +kernel
theorem dX5_prints_7 : decode cX5_prints 7 = .ok (.ireturn, 1) := by decide +kernel
theorem dX5_printed_0 : decode cX5_printed 0 = .ok (.aload_n 0, 1) := by decide +kernel
theorem dX5_printed_1 : decode cX5_printed 1 = .ok (.getfield 27, 3) := by decide +kernel
theorem dX5_printed_4 : decode cX5_printed 4 = .ok (.iload_n 1, 1) := by decide +kernel
theorem dX5_printed_5 : decode cX5_printed 5 = .ok (.invokevirtual 60, 3) := by decide +kernel
theorem dX5_printed_8 : decode cX5_printed 8 = .ok (.lreturn, 1) := by decide +kernel
theorem dX5_cost_0 : decode cX5_cost 0 = .ok (.aload_n 0, 1) := by decide +kernel
theorem dX5_cost_1 : decode cX5_cost 1 = .ok (.getfield 27, 3) := by decide +kernel
theorem dX5_cost_4 : decode cX5_cost 4 = .ok (.getfield 64, 3) := by decide +kernel
theorem dX5_cost_7 : decode cX5_cost 7 = .ok (.ireturn, 1) := by decide +kernel
theorem dX5_deepest_0 : decode cX5_deepest 0 = .ok (.aload_n 0, 1) := by decide +kernel
theorem dX5_deepest_1 : decode cX5_deepest 1 = .ok (.getfield 27, 3) := by decide +kernel
theorem dX5_deepest_4 : decode cX5_deepest 4 = .ok (.getfield 67, 3) := by decide +kernel
theorem dX5_deepest_7 : decode cX5_deepest 7 = .ok (.getfield 71, 3) := by decide +kernel
theorem dX5_deepest_10 : decode cX5_deepest 10 = .ok (.ireturn, 1) := by decide +kernel
theorem dX5_calls_0 : decode cX5_calls 0 = .ok (.aload_n 0, 1) := by decide +kernel
theorem dX5_calls_1 : decode cX5_calls 1 = .ok (.getfield 27, 3) := by decide +kernel
theorem dX5_calls_4 : decode cX5_calls 4 = .ok (.getfield 67, 3) := by decide +kernel
theorem dX5_calls_7 : decode cX5_calls 7 = .ok (.getfield 76, 3) := by decide +kernel
theorem dX5_calls_10 : decode cX5_calls 10 = .ok (.ireturn, 1) := by decide +kernel
theorem dX5_about_0 : decode cX5_about 0 = .ok (.aload_n 0, 1) := by decide +kernel
theorem dX5_about_1 : decode cX5_about 1 = .ok (.getfield 41, 3) := by decide +kernel
theorem dX5_about_4 : decode cX5_about 4 = .ok (.ifCond .ne 5, 3) := by decide +kernel
theorem dX5_about_7 : decode cX5_about 7 = .ok (.iconst (-1), 1) := by decide +kernel
theorem dX5_about_8 : decode cX5_about 8 = .ok (.ireturn, 1) := by decide +kernel
theorem dX5_about_9 : decode cX5_about 9 = .ok (.iload_n 1, 1) := by decide +kernel
theorem dX5_about_10 : decode cX5_about 10 = .ok (.tableswitch 62 0 3 #[30, 38, 46, 54], 30) := by decide +kernel
theorem dX5_about_40 : decode cX5_about 40 = .ok (.aload_n 0, 1) := by decide +kernel
theorem dX5_about_41 : decode cX5_about 41 = .ok (.getfield 34, 3) := by decide +kernel
theorem dX5_about_44 : decode cX5_about 44 = .ok (.getfield 79, 3) := by decide +kernel
theorem dX5_about_47 : decode cX5_about 47 = .ok (.ireturn, 1) := by decide +kernel
theorem dX5_about_48 : decode cX5_about 48 = .ok (.aload_n 0, 1) := by decide +kernel
theorem dX5_about_49 : decode cX5_about 49 = .ok (.getfield 34, 3) := by decide +kernel
theorem dX5_about_52 : decode cX5_about 52 = .ok (.getfield 82, 3) := by decide +kernel
theorem dX5_about_55 : decode cX5_about 55 = .ok (.ireturn, 1) := by decide +kernel
theorem dX5_about_56 : decode cX5_about 56 = .ok (.aload_n 0, 1) := by decide +kernel
theorem dX5_about_57 : decode cX5_about 57 = .ok (.getfield 34, 3) := by decide +kernel
theorem dX5_about_60 : decode cX5_about 60 = .ok (.getfield 85, 3) := by decide +kernel
theorem dX5_about_63 : decode cX5_about 63 = .ok (.ireturn, 1) := by decide +kernel
theorem dX5_about_64 : decode cX5_about 64 = .ok (.aload_n 0, 1) := by decide +kernel
theorem dX5_about_65 : decode cX5_about 65 = .ok (.getfield 34, 3) := by decide +kernel
theorem dX5_about_68 : decode cX5_about 68 = .ok (.getfield 88, 3) := by decide +kernel
theorem dX5_about_71 : decode cX5_about 71 = .ok (.ireturn, 1) := by decide +kernel
theorem dX5_about_72 : decode cX5_about 72 = .ok (.iconst (-1), 1) := by decide +kernel
theorem dX5_about_73 : decode cX5_about 73 = .ok (.ireturn, 1) := by decide +kernel
