theorem dX3_formals_136 : decode cX3_formals 136 = .ok (.iinc 3 1, 3) := by decide +kernel
theorem dX3_formals_139 : decode cX3_formals 139 = .ok (.goto (-118), 3) := by decide +kernel
theorem dX3_formals_142 : decode cX3_formals 142 = .ok (.iconst 0, 1) := by decide +kernel
theorem dX3_formals_143 : decode cX3_formals 143 = .ok (.ireturn, 1) := by decide +kernel
theorem dX3_expression_0 : decode cX3_expression 0 = .ok (.aload_n 0, 1) := by decide +kernel
theorem dX3_expression_1 : decode cX3_expression 1 = .ok (.iload_n 1, 1) := by decide +kernel
theorem dX3_expression_2 : decode cX3_expression 2 = .ok (.invokevirtual 67, 3) := by decide +kernel
theorem dX3_expression_5 : decode cX3_expression 5 = .ok (.ifCond .eq 11, 3) := by decide +kernel
theorem dX3_expression_8 : decode cX3_expression 8 = .ok (.aload_n 0, 1) := by decide +kernel
theorem dX3_expression_9 : decode cX3_expression 9 = .ok (.iload_n 1, 1) := by decide +kernel
theorem dX3_expression_10 : decode cX3_expression 10 = .ok (.invokevirtual 158, 3) := by decide +kernel
theorem dX3_expression_13 : decode cX3_expression 13 = .ok (.ifCond .ne 5, 3) := by decide +kernel
theorem dX3_expression_16 : decode cX3_expression 16 = .ok (.iconst 0, 1) := by decide +kernel
theorem dX3_expression_17 : decode cX3_expression 17 = .ok (.ireturn, 1) := by decide +kernel
theorem dX3_expression_18 : decode cX3_expression 18 = .ok (.aload_n 0, 1) := by decide +kernel
theorem dX3_expression_19 : decode cX3_expression 19 = .ok (.bipush 60, 2) := by decide +kernel
theorem dX3_expression_21 : decode cX3_expression 21 = .ok (.invokevirtual 73, 3) := by decide +kernel
theorem dX3_expression_24 : decode cX3_expression 24 = .ok (.ifCond .ne 5, 3) := by decide +kernel
theorem dX3_expression_27 : decode cX3_expression 27 = .ok (.iconst 1, 1) := by decide +kernel
theorem dX3_expression_28 : decode cX3_expression 28 = .ok (.ireturn, 1) := by decide +kernel
theorem dX3_expression_29 : decode cX3_expression 29 = .ok (.aload_n 0, 1) := by decide +kernel
theorem dX3_expression_30 : decode cX3_expression 30 = .ok (.getfield 18, 3) := by decide +kernel
theorem dX3_expression_33 : decode cX3_expression 33 = .ok (.bipush 18, 2) := by decide +kernel
theorem dX3_expression_35 : decode cX3_expression 35 = .ok (.iconst 0, 1) := by decide +kernel
theorem dX3_expression_36 : decode cX3_expression 36 = .ok (.iconst 0, 1) := by decide +kernel
theorem dX3_expression_37 : decode cX3_expression 37 = .ok (.invokevirtual 57, 3) := by decide +kernel
theorem dX3_expression_40 : decode cX3_expression 40 = .ok (.pop, 1) := by decide +kernel
theorem dX3_expression_41 : decode cX3_expression 41 = .ok (.aload_n 0, 1) := by decide +kernel
theorem dX3_expression_42 : decode cX3_expression 42 = .ok (.iload_n 1, 1) := by decide +kernel
theorem dX3_expression_43 : decode cX3_expression 43 = .ok (.invokevirtual 158, 3) := by decide +kernel
theorem dX3_expression_46 : decode cX3_expression 46 = .ok (.ifCond .ne 5, 3) := by decide +kernel
theorem dX3_expression_49 : decode cX3_expression 49 = .ok (.iconst 0, 1) := by decide +kernel
theorem dX3_expression_50 : decode cX3_expression 50 = .ok (.ireturn, 1) := by decide +kernel
theorem dX3_expression_51 : decode cX3_expression 51 = .ok (.aload_n 0, 1) := by decide +kernel
theorem dX3_expression_52 : decode cX3_expression 52 = .ok (.getfield 18, 3) := by decide +kernel
theorem dX3_expression_55 : decode cX3_expression 55 = .ok (.bipush 22, 2) := by decide +kernel
theorem dX3_expression_57 : decode cX3_expression 57 = .ok (.iconst 0, 1) := by decide +kernel
theorem dX3_expression_58 : decode cX3_expression 58 = .ok (.iconst 0, 1) := by decide +kernel
theorem dX3_expression_59 : decode cX3_expression 59 = .ok (.invokevirtual 57, 3) := by decide +kernel
theorem dX3_expression_62 : decode cX3_expression 62 = .ok (.pop, 1) := by decide +kernel
theorem dX3_expression_63 : decode cX3_expression 63 = .ok (.iconst 1, 1) := by decide +kernel
theorem dX3_expression_64 : decode cX3_expression 64 = .ok (.ireturn, 1) := by decide +kernel
theorem dX3_sum_0 : decode cX3_sum 0 = .ok (.aload_n 0, 1) := by decide +kernel
theorem dX3_sum_1 : decode cX3_sum 1 = .ok (.iload_n 1, 1) := by decide +kernel
theorem dX3_sum_2 : decode cX3_sum 2 = .ok (.invokevirtual 161, 3) := by decide +kernel
theorem dX3_sum_5 : decode cX3_sum 5 = .ok (.ifCond .ne 5, 3) := by decide +kernel
theorem dX3_sum_8 : decode cX3_sum 8 = .ok (.iconst 0, 1) := by decide +kernel
theorem dX3_sum_9 : decode cX3_sum 9 = .ok (.ireturn, 1) := by decide +kernel
theorem dX3_sum_10 : decode cX3_sum 10 = .ok (.iconst 0, 1) := by decide +kernel
theorem dX3_sum_11 : decode cX3_sum 11 = .ok (.istore_n 2, 1) := by decide +kernel
theorem dX3_sum_12 : decode cX3_sum 12 = .ok (.iload_n 2, 1) := by decide +kernel
theorem dX3_sum_13 : decode cX3_sum 13 = .ok (.sipush 320, 3) := by decide +kernel
theorem dX3_sum_16 : decode cX3_sum 16 = .ok (.if_icmp .gt 74, 3) := by decide +kernel
theorem dX3_sum_19 : decode cX3_sum 19 = .ok (.aload_n 0, 1) := by decide +kernel
theorem dX3_sum_20 : decode cX3_sum 20 = .ok (.bipush 43, 2) := by decide +kernel
theorem dX3_sum_22 : decode cX3_sum 22 = .ok (.invokevirtual 73, 3) := by decide +kernel
theorem dX3_sum_25 : decode cX3_sum 25 = .ok (.istore_n 3, 1) := by decide +kernel
theorem dX3_sum_26 : decode cX3_sum 26 = .ok (.iload_n 3, 1) := by decide +kernel
theorem dX3_sum_27 : decode cX3_sum 27 = .ok (.ifCond .ne 14, 3) := by decide +kernel
theorem dX3_sum_30 : decode cX3_sum 30 = .ok (.aload_n 0, 1) := by decide +kernel
theorem dX3_sum_31 : decode cX3_sum 31 = .ok (.bipush 45, 2) := by decide +kernel
theorem dX3_sum_33 : decode cX3_sum 33 = .ok (.invokevirtual 73, 3) := by decide +kernel
theorem dX3_sum_36 : decode cX3_sum 36 = .ok (.ifCond .ne 5, 3) := by decide +kernel
theorem dX3_sum_39 : decode cX3_sum 39 = .ok (.iconst 1, 1) := by decide +kernel
theorem dX3_sum_40 : decode cX3_sum 40 = .ok (.ireturn, 1) := by decide +kernel
theorem dX3_sum_41 : decode cX3_sum 41 = .ok (.aload_n 0, 1) := by decide +kernel
theorem dX3_sum_42 : decode cX3_sum 42 = .ok (.getfield 18, 3) := by decide +kernel
theorem dX3_sum_45 : decode cX3_sum 45 = .ok (.bipush 18, 2) := by decide +kernel
theorem dX3_sum_47 : decode cX3_sum 47 = .ok (.iconst 0, 1) := by decide +kernel
theorem dX3_sum_48 : decode cX3_sum 48 = .ok (.iconst 0, 1) := by decide +kernel
theorem dX3_sum_49 : decode cX3_sum 49 = .ok (.invokevirtual 57, 3) := by decide +kernel
theorem dX3_sum_52 : decode cX3_sum 52 = .ok (.pop, 1) := by decide +kernel
theorem dX3_sum_53 : decode cX3_sum 53 = .ok (.aload_n 0, 1) := by decide +kernel
theorem dX3_sum_54 : decode cX3_sum 54 = .ok (.iload_n 1, 1) := by decide +kernel
theorem dX3_sum_55 : decode cX3_sum 55 = .ok (.invokevirtual 161, 3) := by decide +kernel
theorem dX3_sum_58 : decode cX3_sum 58 = .ok (.ifCond .ne 5, 3) := by decide +kernel
theorem dX3_sum_61 : decode cX3_sum 61 = .ok (.iconst 0, 1) := by decide +kernel
theorem dX3_sum_62 : decode cX3_sum 62 = .ok (.ireturn, 1) := by decide +kernel
theorem dX3_sum_63 : decode cX3_sum 63 = .ok (.aload_n 0, 1) := by decide +kernel
theorem dX3_sum_64 : decode cX3_sum 64 = .ok (.getfield 18, 3) := by decide +kernel
theorem dX3_sum_67 : decode cX3_sum 67 = .ok (.iload_n 3, 1) := by decide +kernel
theorem dX3_sum_68 : decode cX3_sum 68 = .ok (.ifCond .eq 8, 3) := by decide +kernel
theorem dX3_sum_71 : decode cX3_sum 71 = .ok (.bipush 19, 2) := by decide +kernel
theorem dX3_sum_73 : decode cX3_sum 73 = .ok (.goto 5, 3) := by decide +kernel
theorem dX3_sum_76 : decode cX3_sum 76 = .ok (.bipush 20, 2) := by decide +kernel
theorem dX3_sum_78 : decode cX3_sum 78 = .ok (.iconst 0, 1) := by decide +kernel
theorem dX3_sum_79 : decode cX3_sum 79 = .ok (.iconst 0, 1) := by decide +kernel
theorem dX3_sum_80 : decode cX3_sum 80 = .ok (.invokevirtual 57, 3) := by decide +kernel
theorem dX3_sum_83 : decode cX3_sum 83 = .ok (.pop, 1) := by decide +kernel
theorem dX3_sum_84 : decode cX3_sum 84 = .ok (.iinc 2 1, 3) := by decide +kernel
theorem dX3_sum_87 : decode cX3_sum 87 = .ok (.goto (-75), 3) := by decide +kernel
theorem dX3_sum_90 : decode cX3_sum 90 = .ok (.iconst 0, 1) := by decide +kernel
theorem dX3_sum_91 : decode cX3_sum 91 = .ok (.ireturn, 1) := by decide +kernel
theorem dX3_product_0 : decode cX3_product 0 = .ok (.aload_n 0, 1) := by decide +kernel
theorem dX3_product_1 : decode cX3_product 1 = .ok (.iload_n 1, 1) := by decide +kernel
theorem dX3_product_2 : decode cX3_product 2 = .ok (.invokevirtual 164, 3) := by decide +kernel
theorem dX3_product_5 : decode cX3_product 5 = .ok (.ifCond .ne 5, 3) := by decide +kernel
theorem dX3_product_8 : decode cX3_product 8 = .ok (.iconst 0, 1) := by decide +kernel
theorem dX3_product_9 : decode cX3_product 9 = .ok (.ireturn, 1) := by decide +kernel
theorem dX3_product_10 : decode cX3_product 10 = .ok (.iconst 0, 1) := by decide +kernel
theorem dX3_product_11 : decode cX3_product 11 = .ok (.istore_n 2, 1) := by decide +kernel
theorem dX3_product_12 : decode cX3_product 12 = .ok (.iload_n 2, 1) := by decide +kernel
theorem dX3_product_13 : decode cX3_product 13 = .ok (.sipush 320, 3) := by decide +kernel
theorem dX3_product_16 : decode cX3_product 16 = .ok (.if_icmp .gt 54, 3) := by decide +kernel
theorem dX3_product_19 : decode cX3_product 19 = .ok (.aload_n 0, 1) := by decide +kernel
theorem dX3_product_20 : decode cX3_product 20 = .ok (.bipush 42, 2) := by decide +kernel
theorem dX3_product_22 : decode cX3_product 22 = .ok (.invokevirtual 73, 3) := by decide +kernel
theorem dX3_product_25 : decode cX3_product 25 = .ok (.ifCond .ne 5, 3) := by decide +kernel
theorem dX3_product_28 : decode cX3_product 28 = .ok (.iconst 1, 1) := by decide +kernel
theorem dX3_product_29 : decode cX3_product 29 = .ok (.ireturn, 1) := by decide +kernel
theorem dX3_product_30 : decode cX3_product 30 = .ok (.aload_n 0, 1) := by decide +kernel
theorem dX3_product_31 : decode cX3_product 31 = .ok (.getfield 18, 3) := by decide +kernel
theorem dX3_product_34 : decode cX3_product 34 = .ok (.bipush 18, 2) := by decide +kernel
theorem dX3_product_36 : decode cX3_product 36 = .ok (.iconst 0, 1) := by decide +kernel
theorem dX3_product_37 : decode cX3_product 37 = .ok (.iconst 0, 1) := by decide +kernel
theorem dX3_product_38 : decode cX3_product 38 = .ok (.invokevirtual 57, 3) := by decide +kernel
theorem dX3_product_41 : decode cX3_product 41 = .ok (.pop, 1) := by decide +kernel
theorem dX3_product_42 : decode cX3_product 42 = .ok (.aload_n 0, 1) := by decide +kernel
theorem dX3_product_43 : decode cX3_product 43 = .ok (.iload_n 1, 1) := by decide +kernel
theorem dX3_product_44 : decode cX3_product 44 = .ok (.invokevirtual 164, 3) := by decide +kernel
theorem dX3_product_47 : decode cX3_product 47 = .ok (.ifCond .ne 5, 3) := by decide +kernel
theorem dX3_product_50 : decode cX3_product 50 = .ok (.iconst 0, 1) := by decide +kernel
theorem dX3_product_51 : decode cX3_product 51 = .ok (.ireturn, 1) := by decide +kernel
theorem dX3_product_52 : decode cX3_product 52 = .ok (.aload_n 0, 1) := by decide +kernel
theorem dX3_product_53 : decode cX3_product 53 = .ok (.getfield 18, 3) := by decide +kernel
theorem dX3_product_56 : decode cX3_product 56 = .ok (.bipush 21, 2) := by decide +kernel
theorem dX3_product_58 : decode cX3_product 58 = .ok (.iconst 0, 1) := by decide +kernel
theorem dX3_product_59 : decode cX3_product 59 = .ok (.iconst 0, 1) := by decide +kernel
theorem dX3_product_60 : decode cX3_product 60 = .ok (.invokevirtual 57, 3) := by decide +kernel
theorem dX3_product_63 : decode cX3_product 63 = .ok (.pop, 1) := by decide +kernel
theorem dX3_product_64 : decode cX3_product 64 = .ok (.iinc 2 1, 3) := by decide +kernel
theorem dX3_product_67 : decode cX3_product 67 = .ok (.goto (-55), 3) := by decide +kernel
theorem dX3_product_70 : decode cX3_product 70 = .ok (.iconst 0, 1) := by decide +kernel
theorem dX3_product_71 : decode cX3_product 71 = .ok (.ireturn, 1) := by decide +kernel
theorem dX3_factor_0 : decode cX3_factor 0 = .ok (.aload_n 0, 1) := by decide +kernel
theorem dX3_factor_1 : decode cX3_factor 1 = .ok (.bipush 40, 2) := by decide +kernel
theorem dX3_factor_3 : decode cX3_factor 3 = .ok (.invokevirtual 73, 3) := by decide +kernel
theorem dX3_factor_6 : decode cX3_factor 6 = .ok (.ifCond .eq 28, 3) := by decide +kernel
theorem dX3_factor_9 : decode cX3_factor 9 = .ok (.aload_n 0, 1) := by decide +kernel
theorem dX3_factor_10 : decode cX3_factor 10 = .ok (.iload_n 1, 1) := by decide +kernel
theorem dX3_factor_11 : decode cX3_factor 11 = .ok (.iconst 1, 1) := by decide +kernel
theorem dX3_factor_12 : decode cX3_factor 12 = .ok (.iadd, 1) := by decide +kernel
theorem dX3_factor_13 : decode cX3_factor 13 = .ok (.invokevirtual 106, 3) := by decide +kernel
theorem dX3_factor_16 : decode cX3_factor 16 = .ok (.ifCond .eq 16, 3) := by decide +kernel
theorem dX3_factor_19 : decode cX3_factor 19 = .ok (.aload_n 0, 1) := by decide +kernel
theorem dX3_factor_20 : decode cX3_factor 20 = .ok (.bipush 41, 2) := by decide +kernel
theorem dX3_factor_22 : decode cX3_factor 22 = .ok (.invokevirtual 73, 3) := by decide +kernel
theorem dX3_factor_25 : decode cX3_factor 25 = .ok (.ifCond .eq 7, 3) := by decide +kernel
theorem dX3_factor_28 : decode cX3_factor 28 = .ok (.iconst 1, 1) := by decide +kernel
theorem dX3_factor_29 : decode cX3_factor 29 = .ok (.goto 4, 3) := by decide +kernel
theorem dX3_factor_32 : decode cX3_factor 32 = .ok (.iconst 0, 1) := by decide +kernel
theorem dX3_factor_33 : decode cX3_factor 33 = .ok (.ireturn, 1) := by decide +kernel
theorem dX3_factor_34 : decode cX3_factor 34 = .ok (.aload_n 0, 1) := by decide +kernel
theorem dX3_factor_35 : decode cX3_factor 35 = .ok (.invokevirtual 88, 3) := by decide +kernel
theorem dX3_factor_38 : decode cX3_factor 38 = .ok (.istore_n 2, 1) := by decide +kernel
theorem dX3_factor_39 : decode cX3_factor 39 = .ok (.iload_n 2, 1) := by decide +kernel
theorem dX3_factor_40 : decode cX3_factor 40 = .ok (.ifCond .ne 8, 3) := by decide +kernel
theorem dX3_factor_43 : decode cX3_factor 43 = .ok (.aload_n 0, 1) := by decide +kernel
theorem dX3_factor_44 : decode cX3_factor 44 = .ok (.invokevirtual 167, 3) := by decide +kernel
theorem dX3_factor_47 : decode cX3_factor 47 = .ok (.ireturn, 1) := by decide +kernel
theorem dX3_factor_48 : decode cX3_factor 48 = .ok (.aload_n 0, 1) := by decide +kernel
theorem dX3_factor_49 : decode cX3_factor 49 = .ok (.bipush 40, 2) := by decide +kernel
theorem dX3_factor_51 : decode cX3_factor 51 = .ok (.invokevirtual 73, 3) := by decide +kernel
theorem dX3_factor_54 : decode cX3_factor 54 = .ok (.ifCond .ne 16, 3) := by decide +kernel
theorem dX3_factor_57 : decode cX3_factor 57 = .ok (.aload_n 0, 1) := by decide +kernel
theorem dX3_factor_58 : decode cX3_factor 58 = .ok (.iload_n 2, 1) := by decide +kernel
theorem dX3_factor_59 : decode cX3_factor 59 = .ok (.bipush 11, 2) := by decide +kernel
theorem dX3_factor_61 : decode cX3_factor 61 = .ok (.bipush 12, 2) := by decide +kernel
theorem dX3_factor_63 : decode cX3_factor 63 = .ok (.bipush 13, 2) := by decide +kernel
theorem dX3_factor_65 : decode cX3_factor 65 = .ok (.invokevirtual 95, 3) := by decide +kernel
theorem dX3_factor_68 : decode cX3_factor 68 = .ok (.iconst 1, 1) := by decide +kernel
theorem dX3_factor_69 : decode cX3_factor 69 = .ok (.ireturn, 1) := by decide +kernel
theorem dX3_factor_70 : decode cX3_factor 70 = .ok (.aload_n 0, 1) := by decide +kernel
theorem dX3_factor_71 : decode cX3_factor 71 = .ok (.iload_n 2, 1) := by decide +kernel
theorem dX3_factor_72 : decode cX3_factor 72 = .ok (.bipush 15, 2) := by decide +kernel
theorem dX3_factor_74 : decode cX3_factor 74 = .ok (.bipush 14, 2) := by decide +kernel
theorem dX3_factor_76 : decode cX3_factor 76 = .ok (.bipush 13, 2) := by decide +kernel
theorem dX3_factor_78 : decode cX3_factor 78 = .ok (.invokevirtual 95, 3) := by decide +kernel
theorem dX3_factor_81 : decode cX3_factor 81 = .ok (.aload_n 0, 1) := by decide +kernel
theorem dX3_factor_82 : decode cX3_factor 82 = .ok (.iload_n 1, 1) := by decide +kernel
theorem dX3_factor_83 : decode cX3_factor 83 = .ok (.iconst 1, 1) := by decide +kernel
theorem dX3_factor_84 : decode cX3_factor 84 = .ok (.iadd, 1) := by decide +kernel
theorem dX3_factor_85 : decode cX3_factor 85 = .ok (.invokevirtual 99, 3) := by decide +kernel
theorem dX3_factor_88 : decode cX3_factor 88 = .ok (.ireturn, 1) := by decide +kernel
theorem dX3_number_0 : decode cX3_number 0 = .ok (.iconst 0, 1) := by decide +kernel
theorem dX3_number_1 : decode cX3_number 1 = .ok (.istore_n 1, 1) := by decide +kernel
theorem dX3_number_2 : decode cX3_number 2 = .ok (.iconst 0, 1) := by decide +kernel
theorem dX3_number_3 : decode cX3_number 3 = .ok (.istore_n 2, 1) := by decide +kernel
theorem dX3_number_4 : decode cX3_number 4 = .ok (.aload_n 0, 1) := by decide +kernel
theorem dX3_number_5 : decode cX3_number 5 = .ok (.invokevirtual 53, 3) := by decide +kernel
theorem dX3_number_8 : decode cX3_number 8 = .ok (.istore_n 3, 1) := by decide +kernel
theorem dX3_number_9 : decode cX3_number 9 = .ok (.iload_n 1, 1) := by decide +kernel
theorem dX3_number_10 : decode cX3_number 10 = .ok (.bipush 9, 2) := by decide +kernel
theorem dX3_number_12 : decode cX3_number 12 = .ok (.if_icmp .ge 66, 3) := by decide +kernel
theorem dX3_number_15 : decode cX3_number 15 = .ok (.iload_n 3, 1) := by decide +kernel
theorem dX3_number_16 : decode cX3_number 16 = .ok (.bipush 48, 2) := by decide +kernel
theorem dX3_number_18 : decode cX3_number 18 = .ok (.if_icmp .lt 60, 3) := by decide +kernel
theorem dX3_number_21 : decode cX3_number 21 = .ok (.iload_n 3, 1) := by decide +kernel
theorem dX3_number_22 : decode cX3_number 22 = .ok (.bipush 57, 2) := by decide +kernel
theorem dX3_number_24 : decode cX3_number 24 = .ok (.if_icmp .gt 54, 3) := by decide +kernel
theorem dX3_number_27 : decode cX3_number 27 = .ok (.iload_n 2, 1) := by decide +kernel
theorem dX3_number_28 : decode cX3_number 28 = .ok (.bipush 10, 2) := by decide +kernel
theorem dX3_number_30 : decode cX3_number 30 = .ok (.imul, 1) := by decide +kernel
theorem dX3_number_31 : decode cX3_number 31 = .ok (.iload_n 3, 1) := by decide +kernel
theorem dX3_number_32 : decode cX3_number 32 = .ok (.bipush 48, 2) := by decide +kernel
theorem dX3_number_34 : decode cX3_number 34 = .ok (.isub, 1) := by decide +kernel
theorem dX3_number_35 : decode cX3_number 35 = .ok (.iadd, 1) := by decide +kernel
theorem dX3_number_36 : decode cX3_number 36 = .ok (.istore_n 2, 1) := by decide +kernel
theorem dX3_number_37 : decode cX3_number 37 = .ok (.iinc 1 1, 3) := by decide +kernel
theorem dX3_number_40 : decode cX3_number 40 = .ok (.aload_n 0, 1) := by decide +kernel
theorem dX3_number_41 : decode cX3_number 41 = .ok (.dup, 1) := by decide +kernel
theorem dX3_number_42 : decode cX3_number 42 = .ok (.getfield 42, 3) := by decide +kernel
theorem dX3_number_45 : decode cX3_number 45 = .ok (.iconst 1, 1) := by decide +kernel
theorem dX3_number_46 : decode cX3_number 46 = .ok (.iadd, 1) := by decide +kernel
theorem dX3_number_47 : decode cX3_number 47 = .ok (.putfield 42, 3) := by decide +kernel
theorem dX3_number_50 : decode cX3_number 50 = .ok (.aload_n 0, 1) := by decide +kernel
theorem dX3_number_51 : decode cX3_number 51 = .ok (.getfield 42, 3) := by decide +kernel
theorem dX3_number_54 : decode cX3_number 54 = .ok (.aload_n 0, 1) := by decide +kernel
theorem dX3_number_55 : decode cX3_number 55 = .ok (.getfield 38, 3) := by decide +kernel
theorem dX3_number_58 : decode cX3_number 58 = .ok (.if_icmp .ge 15, 3) := by decide +kernel
theorem dX3_number_61 : decode cX3_number 61 = .ok (.aload_n 0, 1) := by decide +kernel
theorem dX3_number_62 : decode cX3_number 62 = .ok (.getfield 22, 3) := by decide +kernel
theorem dX3_number_65 : decode cX3_number 65 = .ok (.aload_n 0, 1) := by decide +kernel
theorem dX3_number_66 : decode cX3_number 66 = .ok (.getfield 42, 3) := by decide +kernel
theorem dX3_number_69 : decode cX3_number 69 = .ok (.caload, 1) := by decide +kernel
theorem dX3_number_70 : decode cX3_number 70 = .ok (.goto 4, 3) := by decide +kernel
theorem dX3_number_73 : decode cX3_number 73 = .ok (.iconst 0, 1) := by decide +kernel
theorem dX3_number_74 : decode cX3_number 74 = .ok (.istore_n 3, 1) := by decide +kernel
theorem dX3_number_75 : decode cX3_number 75 = .ok (.goto (-66), 3) := by decide +kernel
theorem dX3_number_78 : decode cX3_number 78 = .ok (.aload_n 0, 1) := by decide +kernel
theorem dX3_number_79 : decode cX3_number 79 = .ok (.getfield 18, 3) := by decide +kernel
theorem dX3_number_82 : decode cX3_number 82 = .ok (.bipush 10, 2) := by decide +kernel
theorem dX3_number_84 : decode cX3_number 84 = .ok (.iload_n 2, 1) := by decide +kernel
theorem dX3_number_85 : decode cX3_number 85 = .ok (.iconst 0, 1) := by decide +kernel
theorem dX3_number_86 : decode cX3_number 86 = .ok (.invokevirtual 57, 3) := by decide +kernel
theorem dX3_number_89 : decode cX3_number 89 = .ok (.pop, 1) := by decide +kernel
theorem dX3_number_90 : decode cX3_number 90 = .ok (.iload_n 1, 1) := by decide +kernel
theorem dX3_number_91 : decode cX3_number 91 = .ok (.ifCond .le 7, 3) := by decide +kernel
theorem dX3_number_94 : decode cX3_number 94 = .ok (.iconst 1, 1) := by decide +kernel
theorem dX3_number_95 : decode cX3_number 95 = .ok (.goto 4, 3) := by decide +kernel
theorem dX3_number_98 : decode cX3_number 98 = .ok (.iconst 0, 1) := by decide +kernel
theorem dX3_number_99 : decode cX3_number 99 = .ok (.ireturn, 1) := by decide +kernel
theorem dX3_list_0 : decode cX3_list 0 = .ok (.aload_n 0, 1) := by decide +kernel
theorem dX3_list_1 : decode cX3_list 1 = .ok (.bipush 41, 2) := by decide +kernel
theorem dX3_list_3 : decode cX3_list 3 = .ok (.invokevirtual 73, 3) := by decide +kernel
theorem dX3_list_6 : decode cX3_list 6 = .ok (.ifCond .eq 5, 3) := by decide +kernel
theorem dX3_list_9 : decode cX3_list 9 = .ok (.iconst 1, 1) := by decide +kernel
theorem dX3_list_10 : decode cX3_list 10 = .ok (.ireturn, 1) := by decide +kernel
theorem dX3_list_11 : decode cX3_list 11 = .ok (.iconst 0, 1) := by decide +kernel
theorem dX3_list_12 : decode cX3_list 12 = .ok (.istore_n 2, 1) := by decide +kernel
theorem dX3_list_13 : decode cX3_list 13 = .ok (.iload_n 2, 1) := by decide +kernel
theorem dX3_list_14 : decode cX3_list 14 = .ok (.bipush 6, 2) := by decide +kernel
theorem dX3_list_16 : decode cX3_list 16 = .ok (.if_icmp .ge 92, 3) := by decide +kernel
theorem dX3_list_19 : decode cX3_list 19 = .ok (.aload_n 0, 1) := by decide +kernel
theorem dX3_list_20 : decode cX3_list 20 = .ok (.getfield 18, 3) := by decide +kernel
theorem dX3_list_23 : decode cX3_list 23 = .ok (.aload_n 0, 1) := by decide +kernel
theorem dX3_list_24 : decode cX3_list 24 = .ok (.invokevirtual 171, 3) := by decide +kernel
theorem dX3_list_27 : decode cX3_list 27 = .ok (.ifCond .eq 8, 3) := by decide +kernel
theorem dX3_list_30 : decode cX3_list 30 = .ok (.bipush 24, 2) := by decide +kernel
theorem dX3_list_32 : decode cX3_list 32 = .ok (.goto 5, 3) := by decide +kernel
theorem dX3_list_35 : decode cX3_list 35 = .ok (.bipush 23, 2) := by decide +kernel
theorem dX3_list_37 : decode cX3_list 37 = .ok (.iconst 0, 1) := by decide +kernel
theorem dX3_list_38 : decode cX3_list 38 = .ok (.iconst 0, 1) := by decide +kernel
theorem dX3_list_39 : decode cX3_list 39 = .ok (.invokevirtual 57, 3) := by decide +kernel
theorem dX3_list_42 : decode cX3_list 42 = .ok (.istore_n 3, 1) := by decide +kernel
theorem dX3_list_43 : decode cX3_list 43 = .ok (.aload_n 0, 1) := by decide +kernel
theorem dX3_list_44 : decode cX3_list 44 = .ok (.iload_n 1, 1) := by decide +kernel
theorem dX3_list_45 : decode cX3_list 45 = .ok (.invokevirtual 106, 3) := by decide +kernel
theorem dX3_list_48 : decode cX3_list 48 = .ok (.ifCond .ne 5, 3) := by decide +kernel
theorem dX3_list_51 : decode cX3_list 51 = .ok (.iconst 0, 1) := by decide +kernel
theorem dX3_list_52 : decode cX3_list 52 = .ok (.ireturn, 1) := by decide +kernel
theorem dX3_list_53 : decode cX3_list 53 = .ok (.aload_n 0, 1) := by decide +kernel
theorem dX3_list_54 : decode cX3_list 54 = .ok (.getfield 18, 3) := by decide +kernel
theorem dX3_list_57 : decode cX3_list 57 = .ok (.bipush 25, 2) := by decide +kernel
theorem dX3_list_59 : decode cX3_list 59 = .ok (.iconst 0, 1) := by decide +kernel
theorem dX3_list_60 : decode cX3_list 60 = .ok (.iconst 0, 1) := by decide +kernel
theorem dX3_list_61 : decode cX3_list 61 = .ok (.invokevirtual 57, 3) := by decide +kernel
theorem dX3_list_64 : decode cX3_list 64 = .ok (.pop, 1) := by decide +kernel
theorem dX3_list_65 : decode cX3_list 65 = .ok (.aload_n 0, 1) := by decide +kernel
theorem dX3_list_66 : decode cX3_list 66 = .ok (.getfield 18, 3) := by decide +kernel
theorem dX3_list_69 : decode cX3_list 69 = .ok (.iload_n 3, 1) := by decide +kernel
theorem dX3_list_70 : decode cX3_list 70 = .ok (.aload_n 0, 1) := by decide +kernel
theorem dX3_list_71 : decode cX3_list 71 = .ok (.getfield 18, 3) := by decide +kernel
theorem dX3_list_74 : decode cX3_list 74 = .ok (.getfield 109, 3) := by decide +kernel
theorem dX3_list_77 : decode cX3_list 77 = .ok (.invokevirtual 112, 3) := by decide +kernel
theorem dX3_list_80 : decode cX3_list 80 = .ok (.aload_n 0, 1) := by decide +kernel
theorem dX3_list_81 : decode cX3_list 81 = .ok (.bipush 41, 2) := by decide +kernel
theorem dX3_list_83 : decode cX3_list 83 = .ok (.invokevirtual 73, 3) := by decide +kernel
theorem dX3_list_86 : decode cX3_list 86 = .ok (.ifCond .eq 5, 3) := by decide +kernel
theorem dX3_list_89 : decode cX3_list 89 = .ok (.iconst 1, 1) := by decide +kernel
theorem dX3_list_90 : decode cX3_list 90 = .ok (.ireturn, 1) := by decide +kernel
theorem dX3_list_91 : decode cX3_list 91 = .ok (.aload_n 0, 1) := by decide +kernel
theorem dX3_list_92 : decode cX3_list 92 = .ok (.bipush 44, 2) := by decide +kernel
theorem dX3_list_94 : decode cX3_list 94 = .ok (.invokevirtual 73, 3) := by decide +kernel
theorem dX3_list_97 : decode cX3_list 97 = .ok (.ifCond .ne 5, 3) := by decide +kernel
theorem dX3_list_100 : decode cX3_list 100 = .ok (.iconst 0, 1) := by decide +kernel
theorem dX3_list_101 : decode cX3_list 101 = .ok (.ireturn, 1) := by decide +kernel
theorem dX3_list_102 : decode cX3_list 102 = .ok (.iinc 2 1, 3) := by decide +kernel
theorem dX3_list_105 : decode cX3_list 105 = .ok (.goto (-92), 3) := by decide +kernel
theorem dX3_list_108 : decode cX3_list 108 = .ok (.iconst 0, 1) := by decide +kernel
theorem dX3_list_109 : decode cX3_list 109 = .ok (.ireturn, 1) := by decide +kernel
theorem dX3_isNameAlone_0 : decode cX3_isNameAlone 0 = .ok (.aload_n 0, 1) := by decide +kernel
theorem dX3_isNameAlone_1 : decode cX3_isNameAlone 1 = .ok (.getfield 42, 3) := by decide +kernel
theorem dX3_isNameAlone_4 : decode cX3_isNameAlone 4 = .ok (.istore_n 1, 1) := by decide +kernel
theorem dX3_isNameAlone_5 : decode cX3_isNameAlone 5 = .ok (.iconst 0, 1) := by decide +kernel
theorem dX3_isNameAlone_6 : decode cX3_isNameAlone 6 = .ok (.istore_n 2, 1) := by decide +kernel
theorem dX3_isNameAlone_7 : decode cX3_isNameAlone 7 = .ok (.aload_n 0, 1) := by decide +kernel
theorem dX3_isNameAlone_8 : decode cX3_isNameAlone 8 = .ok (.invokevirtual 88, 3) := by decide +kernel
theorem dX3_isNameAlone_11 : decode cX3_isNameAlone 11 = .ok (.ifCond .eq 26, 3) := by decide +kernel
theorem dX3_isNameAlone_14 : decode cX3_isNameAlone 14 = .ok (.aload_n 0, 1) := by decide +kernel
theorem dX3_isNameAlone_15 : decode cX3_isNameAlone 15 = .ok (.invokevirtual 53, 3) := by decide +kernel
theorem dX3_isNameAlone_18 : decode cX3_isNameAlone 18 = .ok (.istore_n 3, 1) := by decide +kernel
theorem dX3_isNameAlone_19 : decode cX3_isNameAlone 19 = .ok (.iload_n 3, 1) := by decide +kernel
theorem dX3_isNameAlone_20 : decode cX3_isNameAlone 20 = .ok (.bipush 44, 2) := by decide +kernel
theorem dX3_isNameAlone_22 : decode cX3_isNameAlone 22 = .ok (.if_icmp .eq 9, 3) := by decide +kernel
theorem dX3_isNameAlone_25 : decode cX3_isNameAlone 25 = .ok (.iload_n 3, 1) := by decide +kernel
theorem dX3_isNameAlone_26 : decode cX3_isNameAlone 26 = .ok (.bipush 41, 2) := by decide +kernel
theorem dX3_isNameAlone_28 : decode cX3_isNameAlone 28 = .ok (.if_icmp .ne 7, 3) := by decide +kernel
theorem dX3_isNameAlone_31 : decode cX3_isNameAlone 31 = .ok (.iconst 1, 1) := by decide +kernel
theorem dX3_isNameAlone_32 : decode cX3_isNameAlone 32 = .ok (.goto 4, 3) := by decide +kernel
theorem dX3_isNameAlone_35 : decode cX3_isNameAlone 35 = .ok (.iconst 0, 1) := by decide +kernel
theorem dX3_isNameAlone_36 : decode cX3_isNameAlone 36 = .ok (.istore_n 2, 1) := by decide +kernel
theorem dX3_isNameAlone_37 : decode cX3_isNameAlone 37 = .ok (.aload_n 0, 1) := by decide +kernel
theorem dX3_isNameAlone_38 : decode cX3_isNameAlone 38 = .ok (.iload_n 1, 1) := by decide +kernel
theorem dX3_isNameAlone_39 : decode cX3_isNameAlone 39 = .ok (.putfield 42, 3) := by decide +kernel
theorem dX3_isNameAlone_42 : decode cX3_isNameAlone 42 = .ok (.iload_n 2, 1) := by decide +kernel
theorem dX3_isNameAlone_43 : decode cX3_isNameAlone 43 = .ok (.ireturn, 1) := by decide +kernel
theorem dX3_declare_0 : decode cX3_declare 0 = .ok (.aload_n 0, 1) := by decide +kernel
theorem dX3_declare_1 : decode cX3_declare 1 = .ok (.getfield 12, 3) := by decide +kernel
theorem dX3_declare_4 : decode cX3_declare 4 = .ok (.iload_n 1, 1) := by decide +kernel
theorem dX3_declare_5 : decode cX3_declare 5 = .ok (.iload_n 2, 1) := by decide +kernel
theorem dX3_declare_6 : decode cX3_declare 6 = .ok (.iload_n 3, 1) := by decide +kernel
theorem dX3_declare_7 : decode cX3_declare 7 = .ok (.iload 4, 2) := by decide +kernel
theorem dX3_declare_9 : decode cX3_declare 9 = .ok (.invokevirtual 174, 3) := by decide +kernel
theorem dX3_declare_12 : decode cX3_declare 12 = .ok (.ifCond .ne 8, 3) := by decide +kernel
theorem dX3_declare_15 : decode cX3_declare 15 = .ok (.aload_n 0, 1) := by decide +kernel
theorem dX3_declare_16 : decode cX3_declare 16 = .ok (.iconst 0, 1) := by decide +kernel
theorem dX3_declare_17 : decode cX3_declare 17 = .ok (.putfield 45, 3) := by decide +kernel
theorem dX3_declare_20 : decode cX3_declare 20 = .ok (.return_, 1) := by decide +kernel
theorem dX3_addUse_0 : decode cX3_addUse 0 = .ok (.aload_n 0, 1) := by decide +kernel
theorem dX3_addUse_1 : decode cX3_addUse 1 = .ok (.getfield 12, 3) := by decide +kernel
theorem dX3_addUse_4 : decode cX3_addUse 4 = .ok (.iload_n 1, 1) := by decide +kernel
theorem dX3_addUse_5 : decode cX3_addUse 5 = .ok (.invokevirtual 177, 3) := by decide +kernel
theorem dX3_addUse_8 : decode cX3_addUse 8 = .ok (.istore 5, 2) := by decide +kernel
theorem dX3_addUse_10 : decode cX3_addUse 10 = .ok (.iload 5, 2) := by decide +kernel
theorem dX3_addUse_12 : decode cX3_addUse 12 = .ok (.ifCond .ge 8, 3) := by decide +kernel
theorem dX3_addUse_15 : decode cX3_addUse 15 = .ok (.aload_n 0, 1) := by decide +kernel
theorem dX3_addUse_16 : decode cX3_addUse 16 = .ok (.iconst 0, 1) := by decide +kernel
theorem dX3_addUse_17 : decode cX3_addUse 17 = .ok (.putfield 45, 3) := by decide +kernel
theorem dX3_addUse_20 : decode cX3_addUse 20 = .ok (.aload_n 0, 1) := by decide +kernel
theorem dX3_addUse_21 : decode cX3_addUse 21 = .ok (.getfield 12, 3) := by decide +kernel
theorem dX3_addUse_24 : decode cX3_addUse 24 = .ok (.iload 5, 2) := by decide +kernel
theorem dX3_addUse_26 : decode cX3_addUse 26 = .ok (.invokevirtual 181, 3) := by decide +kernel
theorem dX3_addUse_29 : decode cX3_addUse 29 = .ok (.istore 6, 2) := by decide +kernel
theorem dX3_addUse_31 : decode cX3_addUse 31 = .ok (.iload 6, 2) := by decide +kernel
theorem dX3_addUse_33 : decode cX3_addUse 33 = .ok (.ifCond .ne 7, 3) := by decide +kernel
theorem dX3_addUse_36 : decode cX3_addUse 36 = .ok (.iload_n 2, 1) := by decide +kernel
theorem dX3_addUse_37 : decode cX3_addUse 37 = .ok (.goto 15, 3) := by decide +kernel
theorem dX3_addUse_40 : decode cX3_addUse 40 = .ok (.iload 6, 2) := by decide +kernel
theorem dX3_addUse_42 : decode cX3_addUse 42 = .ok (.iconst 1, 1) := by decide +kernel
theorem dX3_addUse_43 : decode cX3_addUse 43 = .ok (.if_icmp .ne 7, 3) := by decide +kernel
theorem dX3_addUse_46 : decode cX3_addUse 46 = .ok (.iload_n 3, 1) := by decide +kernel
theorem dX3_addUse_47 : decode cX3_addUse 47 = .ok (.goto 5, 3) := by decide +kernel
theorem dX3_addUse_50 : decode cX3_addUse 50 = .ok (.iload 4, 2) := by decide +kernel
theorem dX3_addUse_52 : decode cX3_addUse 52 = .ok (.istore 7, 2) := by decide +kernel
theorem dX3_addUse_54 : decode cX3_addUse 54 = .ok (.aload_n 0, 1) := by decide +kernel
theorem dX3_addUse_55 : decode cX3_addUse 55 = .ok (.getfield 18, 3) := by decide +kernel
theorem dX3_addUse_58 : decode cX3_addUse 58 = .ok (.iload 7, 2) := by decide +kernel
theorem dX3_addUse_60 : decode cX3_addUse 60 = .ok (.aload_n 0, 1) := by decide +kernel
theorem dX3_addUse_61 : decode cX3_addUse 61 = .ok (.getfield 12, 3) := by decide +kernel
theorem dX3_addUse_64 : decode cX3_addUse 64 = .ok (.iload 5, 2) := by decide +kernel
theorem dX3_addUse_66 : decode cX3_addUse 66 = .ok (.invokevirtual 184, 3) := by decide +kernel
theorem dX3_addUse_69 : decode cX3_addUse 69 = .ok (.aload_n 0, 1) := by decide +kernel
theorem dX3_addUse_70 : decode cX3_addUse 70 = .ok (.getfield 12, 3) := by decide +kernel
theorem dX3_addUse_73 : decode cX3_addUse 73 = .ok (.iload 5, 2) := by decide +kernel
theorem dX3_addUse_75 : decode cX3_addUse 75 = .ok (.invokevirtual 187, 3) := by decide +kernel
theorem dX3_addUse_78 : decode cX3_addUse 78 = .ok (.invokevirtual 57, 3) := by decide +kernel
theorem dX3_addUse_81 : decode cX3_addUse 81 = .ok (.pop, 1) := by decide +kernel
theorem dX3_addUse_82 : decode cX3_addUse 82 = .ok (.return_, 1) := by decide +kernel
theorem dX3_addTarget_0 : decode cX3_addTarget 0 = .ok (.aload_n 0, 1) := by decide +kernel
theorem dX3_addTarget_1 : decode cX3_addTarget 1 = .ok (.getfield 12, 3) := by decide +kernel
theorem dX3_addTarget_4 : decode cX3_addTarget 4 = .ok (.iload_n 1, 1) := by decide +kernel
theorem dX3_addTarget_5 : decode cX3_addTarget 5 = .ok (.invokevirtual 177, 3) := by decide +kernel
theorem dX3_addTarget_8 : decode cX3_addTarget 8 = .ok (.istore_n 2, 1) := by decide +kernel
theorem dX3_addTarget_9 : decode cX3_addTarget 9 = .ok (.aload_n 0, 1) := by decide +kernel
theorem dX3_addTarget_10 : decode cX3_addTarget 10 = .ok (.getfield 12, 3) := by decide +kernel
theorem dX3_addTarget_13 : decode cX3_addTarget 13 = .ok (.iload_n 2, 1) := by decide +kernel
theorem dX3_addTarget_14 : decode cX3_addTarget 14 = .ok (.invokevirtual 190, 3) := by decide +kernel
theorem dX3_addTarget_17 : decode cX3_addTarget 17 = .ok (.ifCond .eq 27, 3) := by decide +kernel
theorem dX3_addTarget_20 : decode cX3_addTarget 20 = .ok (.aload_n 0, 1) := by decide +kernel
theorem dX3_addTarget_21 : decode cX3_addTarget 21 = .ok (.getfield 18, 3) := by decide +kernel
theorem dX3_addTarget_24 : decode cX3_addTarget 24 = .ok (.bipush 6, 2) := by decide +kernel
theorem dX3_addTarget_26 : decode cX3_addTarget 26 = .ok (.iconst 0, 1) := by decide +kernel
theorem dX3_addTarget_27 : decode cX3_addTarget 27 = .ok (.aload_n 0, 1) := by decide +kernel
theorem dX3_addTarget_28 : decode cX3_addTarget 28 = .ok (.getfield 12, 3) := by decide +kernel
theorem dX3_addTarget_31 : decode cX3_addTarget 31 = .ok (.iload_n 2, 1) := by decide +kernel
theorem dX3_addTarget_32 : decode cX3_addTarget 32 = .ok (.invokevirtual 187, 3) := by decide +kernel
theorem dX3_addTarget_35 : decode cX3_addTarget 35 = .ok (.iconst 1, 1) := by decide +kernel
theorem dX3_addTarget_36 : decode cX3_addTarget 36 = .ok (.isub, 1) := by decide +kernel
theorem dX3_addTarget_37 : decode cX3_addTarget 37 = .ok (.invokevirtual 57, 3) := by decide +kernel
theorem dX3_addTarget_40 : decode cX3_addTarget 40 = .ok (.pop, 1) := by decide +kernel
theorem dX3_addTarget_41 : decode cX3_addTarget 41 = .ok (.goto 14, 3) := by decide +kernel
theorem dX3_addTarget_44 : decode cX3_addTarget 44 = .ok (.aload_n 0, 1) := by decide +kernel
theorem dX3_addTarget_45 : decode cX3_addTarget 45 = .ok (.iload_n 1, 1) := by decide +kernel
theorem dX3_addTarget_46 : decode cX3_addTarget 46 = .ok (.bipush 6, 2) := by decide +kernel
theorem dX3_addTarget_48 : decode cX3_addTarget 48 = .ok (.bipush 7, 2) := by decide +kernel
theorem dX3_addTarget_50 : decode cX3_addTarget 50 = .ok (.bipush 8, 2) := by decide +kernel
theorem dX3_addTarget_52 : decode cX3_addTarget 52 = .ok (.invokevirtual 95, 3) := by decide +kernel
theorem dX3_addTarget_55 : decode cX3_addTarget 55 = .ok (.return_, 1) := by decide +kernel
