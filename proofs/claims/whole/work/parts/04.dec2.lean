theorem dX6_init_0 : decode cX6_init 0 = .ok (.aload_n 0, 1) := by decide +kernel
theorem dX6_init_1 : decode cX6_init 1 = .ok (.invokespecial 3, 3) := by decide +kernel
theorem dX6_init_4 : decode cX6_init 4 = .ok (.aload_n 0, 1) := by decide +kernel
theorem dX6_init_5 : decode cX6_init 5 = .ok (.new 9, 3) := by decide +kernel
theorem dX6_init_8 : decode cX6_init 8 = .ok (.dup, 1) := by decide +kernel
theorem dX6_init_9 : decode cX6_init 9 = .ok (.invokespecial 11, 3) := by decide +kernel
theorem dX6_init_12 : decode cX6_init 12 = .ok (.putfield 12, 3) := by decide +kernel
theorem dX6_init_15 : decode cX6_init 15 = .ok (.aload_n 0, 1) := by decide +kernel
theorem dX6_init_16 : decode cX6_init 16 = .ok (.new 9, 3) := by decide +kernel
theorem dX6_init_19 : decode cX6_init 19 = .ok (.dup, 1) := by decide +kernel
theorem dX6_init_20 : decode cX6_init 20 = .ok (.invokespecial 11, 3) := by decide +kernel
theorem dX6_init_23 : decode cX6_init 23 = .ok (.putfield 16, 3) := by decide +kernel
theorem dX6_init_26 : decode cX6_init 26 = .ok (.aload_n 0, 1) := by decide +kernel
theorem dX6_init_27 : decode cX6_init 27 = .ok (.iconst 0, 1) := by decide +kernel
theorem dX6_init_28 : decode cX6_init 28 = .ok (.putfield 19, 3) := by decide +kernel
theorem dX6_init_31 : decode cX6_init 31 = .ok (.aload_n 0, 1) := by decide +kernel
theorem dX6_init_32 : decode cX6_init 32 = .ok (.new 23, 3) := by decide +kernel
theorem dX6_init_35 : decode cX6_init 35 = .ok (.dup, 1) := by decide +kernel
theorem dX6_init_36 : decode cX6_init 36 = .ok (.invokespecial 25, 3) := by decide +kernel
theorem dX6_init_39 : decode cX6_init 39 = .ok (.putfield 26, 3) := by decide +kernel
theorem dX6_init_42 : decode cX6_init 42 = .ok (.aload_n 0, 1) := by decide +kernel
theorem dX6_init_43 : decode cX6_init 43 = .ok (.new 30, 3) := by decide +kernel
theorem dX6_init_46 : decode cX6_init 46 = .ok (.dup, 1) := by decide +kernel
theorem dX6_init_47 : decode cX6_init 47 = .ok (.invokespecial 32, 3) := by decide +kernel
theorem dX6_init_50 : decode cX6_init 50 = .ok (.putfield 33, 3) := by decide +kernel
theorem dX6_init_53 : decode cX6_init 53 = .ok (.aload_n 0, 1) := by decide +kernel
theorem dX6_init_54 : decode cX6_init 54 = .ok (.new 37, 3) := by decide +kernel
theorem dX6_init_57 : decode cX6_init 57 = .ok (.dup, 1) := by decide +kernel
theorem dX6_init_58 : decode cX6_init 58 = .ok (.invokespecial 39, 3) := by decide +kernel
theorem dX6_init_61 : decode cX6_init 61 = .ok (.putfield 40, 3) := by decide +kernel
theorem dX6_init_64 : decode cX6_init 64 = .ok (.aload_n 0, 1) := by decide +kernel
theorem dX6_init_65 : decode cX6_init 65 = .ok (.new 44, 3) := by decide +kernel
theorem dX6_init_68 : decode cX6_init 68 = .ok (.dup, 1) := by decide +kernel
theorem dX6_init_69 : decode cX6_init 69 = .ok (.invokespecial 46, 3) := by decide +kernel
theorem dX6_init_72 : decode cX6_init 72 = .ok (.putfield 47, 3) := by decide +kernel
theorem dX6_init_75 : decode cX6_init 75 = .ok (.aload_n 0, 1) := by decide +kernel
theorem dX6_init_76 : decode cX6_init 76 = .ok (.bipush 32, 2) := by decide +kernel
theorem dX6_init_78 : decode cX6_init 78 = .ok (.newarray .int, 2) := by decide +kernel
theorem dX6_init_80 : decode cX6_init 80 = .ok (.putfield 51, 3) := by decide +kernel
theorem dX6_init_83 : decode cX6_init 83 = .ok (.aload_n 0, 1) := by decide +kernel
theorem dX6_init_84 : decode cX6_init 84 = .ok (.bipush 6, 2) := by decide +kernel
theorem dX6_init_86 : decode cX6_init 86 = .ok (.newarray .int, 2) := by decide +kernel
theorem dX6_init_88 : decode cX6_init 88 = .ok (.putfield 55, 3) := by decide +kernel
theorem dX6_init_91 : decode cX6_init 91 = .ok (.aload_n 0, 1) := by decide +kernel
theorem dX6_init_92 : decode cX6_init 92 = .ok (.bipush 6, 2) := by decide +kernel
theorem dX6_init_94 : decode cX6_init 94 = .ok (.newarray .int, 2) := by decide +kernel
theorem dX6_init_96 : decode cX6_init 96 = .ok (.putfield 58, 3) := by decide +kernel
theorem dX6_init_99 : decode cX6_init 99 = .ok (.aload_n 0, 1) := by decide +kernel
theorem dX6_init_100 : decode cX6_init 100 = .ok (.iconst 4, 1) := by decide +kernel
theorem dX6_init_101 : decode cX6_init 101 = .ok (.anewarray 61, 3) := by decide +kernel
theorem dX6_init_104 : decode cX6_init 104 = .ok (.putfield 63, 3) := by decide +kernel
theorem dX6_init_107 : decode cX6_init 107 = .ok (.iconst 0, 1) := by decide +kernel
theorem dX6_init_108 : decode cX6_init 108 = .ok (.istore_n 1, 1) := by decide +kernel
theorem dX6_init_109 : decode cX6_init 109 = .ok (.iload_n 1, 1) := by decide +kernel
theorem dX6_init_110 : decode cX6_init 110 = .ok (.iconst 4, 1) := by decide +kernel
theorem dX6_init_111 : decode cX6_init 111 = .ok (.if_icmp .ge 22, 3) := by decide +kernel
theorem dX6_init_114 : decode cX6_init 114 = .ok (.aload_n 0, 1) := by decide +kernel
theorem dX6_init_115 : decode cX6_init 115 = .ok (.getfield 63, 3) := by decide +kernel
theorem dX6_init_118 : decode cX6_init 118 = .ok (.iload_n 1, 1) := by decide +kernel
theorem dX6_init_119 : decode cX6_init 119 = .ok (.new 61, 3) := by decide +kernel
theorem dX6_init_122 : decode cX6_init 122 = .ok (.dup, 1) := by decide +kernel
theorem dX6_init_123 : decode cX6_init 123 = .ok (.invokespecial 67, 3) := by decide +kernel
theorem dX6_init_126 : decode cX6_init 126 = .ok (.aastore, 1) := by decide +kernel
theorem dX6_init_127 : decode cX6_init 127 = .ok (.iinc 1 1, 3) := by decide +kernel
theorem dX6_init_130 : decode cX6_init 130 = .ok (.goto (-21), 3) := by decide +kernel
theorem dX6_init_133 : decode cX6_init 133 = .ok (.return_, 1) := by decide +kernel
theorem dX6_prime_0 : decode cX6_prime 0 = .ok (.iload_n 1, 1) := by decide +kernel
theorem dX6_prime_1 : decode cX6_prime 1 = .ok (.invokestatic 68, 3) := by decide +kernel
theorem dX6_prime_4 : decode cX6_prime 4 = .ok (.ifCond .ne 5, 3) := by decide +kernel
theorem dX6_prime_7 : decode cX6_prime 7 = .ok (.iconst (-1), 1) := by decide +kernel
theorem dX6_prime_8 : decode cX6_prime 8 = .ok (.ireturn, 1) := by decide +kernel
theorem dX6_prime_9 : decode cX6_prime 9 = .ok (.aload_n 0, 1) := by decide +kernel
theorem dX6_prime_10 : decode cX6_prime 10 = .ok (.getfield 12, 3) := by decide +kernel
theorem dX6_prime_13 : decode cX6_prime 13 = .ok (.getfield 72, 3) := by decide +kernel
theorem dX6_prime_16 : decode cX6_prime 16 = .ok (.istore_n 2, 1) := by decide +kernel
theorem dX6_prime_17 : decode cX6_prime 17 = .ok (.iload_n 1, 1) := by decide +kernel
theorem dX6_prime_18 : decode cX6_prime 18 = .ok (.iload_n 2, 1) := by decide +kernel
theorem dX6_prime_19 : decode cX6_prime 19 = .ok (.if_icmp .ne 6, 3) := by decide +kernel
theorem dX6_prime_22 : decode cX6_prime 22 = .ok (.bipush (-2), 2) := by decide +kernel
theorem dX6_prime_24 : decode cX6_prime 24 = .ok (.ireturn, 1) := by decide +kernel
theorem dX6_prime_25 : decode cX6_prime 25 = .ok (.aload_n 0, 1) := by decide +kernel
theorem dX6_prime_26 : decode cX6_prime 26 = .ok (.getfield 12, 3) := by decide +kernel
theorem dX6_prime_29 : decode cX6_prime 29 = .ok (.iload_n 1, 1) := by decide +kernel
theorem dX6_prime_30 : decode cX6_prime 30 = .ok (.putfield 72, 3) := by decide +kernel
theorem dX6_prime_33 : decode cX6_prime 33 = .ok (.aload_n 0, 1) := by decide +kernel
theorem dX6_prime_34 : decode cX6_prime 34 = .ok (.getfield 12, 3) := by decide +kernel
theorem dX6_prime_37 : decode cX6_prime 37 = .ok (.getfield 76, 3) := by decide +kernel
theorem dX6_prime_40 : decode cX6_prime 40 = .ok (.iload_n 1, 1) := by decide +kernel
theorem dX6_prime_41 : decode cX6_prime 41 = .ok (.invokevirtual 79, 3) := by decide +kernel
theorem dX6_prime_44 : decode cX6_prime 44 = .ok (.aload_n 0, 1) := by decide +kernel
theorem dX6_prime_45 : decode cX6_prime 45 = .ok (.getfield 12, 3) := by decide +kernel
theorem dX6_prime_48 : decode cX6_prime 48 = .ok (.invokevirtual 83, 3) := by decide +kernel
theorem dX6_prime_51 : decode cX6_prime 51 = .ok (.iload_n 2, 1) := by decide +kernel
theorem dX6_prime_52 : decode cX6_prime 52 = .ok (.ireturn, 1) := by decide +kernel
theorem dX6_type_0 : decode cX6_type 0 = .ok (.iload_n 1, 1) := by decide +kernel
theorem dX6_type_1 : decode cX6_type 1 = .ok (.bipush 32, 2) := by decide +kernel
theorem dX6_type_3 : decode cX6_type 3 = .ok (.if_icmp .lt 9, 3) := by decide +kernel
theorem dX6_type_6 : decode cX6_type 6 = .ok (.iload_n 1, 1) := by decide +kernel
theorem dX6_type_7 : decode cX6_type 7 = .ok (.bipush 126, 2) := by decide +kernel
theorem dX6_type_9 : decode cX6_type 9 = .ok (.if_icmp .le 5, 3) := by decide +kernel
theorem dX6_type_12 : decode cX6_type 12 = .ok (.iconst (-1), 1) := by decide +kernel
theorem dX6_type_13 : decode cX6_type 13 = .ok (.ireturn, 1) := by decide +kernel
theorem dX6_type_14 : decode cX6_type 14 = .ok (.aload_n 0, 1) := by decide +kernel
theorem dX6_type_15 : decode cX6_type 15 = .ok (.getfield 26, 3) := by decide +kernel
theorem dX6_type_18 : decode cX6_type 18 = .ok (.iload_n 1, 1) := by decide +kernel
theorem dX6_type_19 : decode cX6_type 19 = .ok (.invokevirtual 86, 3) := by decide +kernel
theorem dX6_type_22 : decode cX6_type 22 = .ok (.ifCond .eq 13, 3) := by decide +kernel
theorem dX6_type_25 : decode cX6_type 25 = .ok (.aload_n 0, 1) := by decide +kernel
theorem dX6_type_26 : decode cX6_type 26 = .ok (.getfield 26, 3) := by decide +kernel
theorem dX6_type_29 : decode cX6_type 29 = .ok (.getfield 89, 3) := by decide +kernel
theorem dX6_type_32 : decode cX6_type 32 = .ok (.goto 5, 3) := by decide +kernel
theorem dX6_type_35 : decode cX6_type 35 = .ok (.bipush (-3), 2) := by decide +kernel
theorem dX6_type_37 : decode cX6_type 37 = .ok (.ireturn, 1) := by decide +kernel
theorem dX6_matrix_0 : decode cX6_matrix 0 = .ok (.aload_n 0, 1) := by decide +kernel
theorem dX6_matrix_1 : decode cX6_matrix 1 = .ok (.getfield 26, 3) := by decide +kernel
theorem dX6_matrix_4 : decode cX6_matrix 4 = .ok (.aload_n 0, 1) := by decide +kernel
theorem dX6_matrix_5 : decode cX6_matrix 5 = .ok (.getfield 12, 3) := by decide +kernel
theorem dX6_matrix_8 : decode cX6_matrix 8 = .ok (.getfield 72, 3) := by decide +kernel
theorem dX6_matrix_11 : decode cX6_matrix 11 = .ok (.invokevirtual 92, 3) := by decide +kernel
theorem dX6_matrix_14 : decode cX6_matrix 14 = .ok (.istore_n 1, 1) := by decide +kernel
theorem dX6_matrix_15 : decode cX6_matrix 15 = .ok (.aload_n 0, 1) := by decide +kernel
theorem dX6_matrix_16 : decode cX6_matrix 16 = .ok (.getfield 26, 3) := by decide +kernel
theorem dX6_matrix_19 : decode cX6_matrix 19 = .ok (.iconst 0, 1) := by decide +kernel
theorem dX6_matrix_20 : decode cX6_matrix 20 = .ok (.putfield 89, 3) := by decide +kernel
theorem dX6_matrix_23 : decode cX6_matrix 23 = .ok (.iload_n 1, 1) := by decide +kernel
theorem dX6_matrix_24 : decode cX6_matrix 24 = .ok (.ifCond .eq 5, 3) := by decide +kernel
theorem dX6_matrix_27 : decode cX6_matrix 27 = .ok (.iload_n 1, 1) := by decide +kernel
theorem dX6_matrix_28 : decode cX6_matrix 28 = .ok (.ireturn, 1) := by decide +kernel
theorem dX6_matrix_29 : decode cX6_matrix 29 = .ok (.aload_n 0, 1) := by decide +kernel
theorem dX6_matrix_30 : decode cX6_matrix 30 = .ok (.getfield 12, 3) := by decide +kernel
theorem dX6_matrix_33 : decode cX6_matrix 33 = .ok (.getfield 76, 3) := by decide +kernel
theorem dX6_matrix_36 : decode cX6_matrix 36 = .ok (.getfield 96, 3) := by decide +kernel
theorem dX6_matrix_39 : decode cX6_matrix 39 = .ok (.istore_n 2, 1) := by decide +kernel
theorem dX6_matrix_40 : decode cX6_matrix 40 = .ok (.aload_n 0, 1) := by decide +kernel
theorem dX6_matrix_41 : decode cX6_matrix 41 = .ok (.getfield 12, 3) := by decide +kernel
theorem dX6_matrix_44 : decode cX6_matrix 44 = .ok (.getfield 76, 3) := by decide +kernel
theorem dX6_matrix_47 : decode cX6_matrix 47 = .ok (.aload_n 0, 1) := by decide +kernel
theorem dX6_matrix_48 : decode cX6_matrix 48 = .ok (.getfield 26, 3) := by decide +kernel
theorem dX6_matrix_51 : decode cX6_matrix 51 = .ok (.getfield 99, 3) := by decide +kernel
theorem dX6_matrix_54 : decode cX6_matrix 54 = .ok (.invokevirtual 102, 3) := by decide +kernel
theorem dX6_matrix_57 : decode cX6_matrix 57 = .ok (.aload_n 0, 1) := by decide +kernel
theorem dX6_matrix_58 : decode cX6_matrix 58 = .ok (.getfield 12, 3) := by decide +kernel
theorem dX6_matrix_61 : decode cX6_matrix 61 = .ok (.getfield 76, 3) := by decide +kernel
theorem dX6_matrix_64 : decode cX6_matrix 64 = .ok (.iload_n 2, 1) := by decide +kernel
theorem dX6_matrix_65 : decode cX6_matrix 65 = .ok (.putfield 96, 3) := by decide +kernel
theorem dX6_matrix_68 : decode cX6_matrix 68 = .ok (.aload_n 0, 1) := by decide +kernel
theorem dX6_matrix_69 : decode cX6_matrix 69 = .ok (.getfield 12, 3) := by decide +kernel
theorem dX6_matrix_72 : decode cX6_matrix 72 = .ok (.invokevirtual 83, 3) := by decide +kernel
theorem dX6_matrix_75 : decode cX6_matrix 75 = .ok (.aload_n 0, 1) := by decide +kernel
theorem dX6_matrix_76 : decode cX6_matrix 76 = .ok (.getfield 12, 3) := by decide +kernel
theorem dX6_matrix_79 : decode cX6_matrix 79 = .ok (.getfield 76, 3) := by decide +kernel
theorem dX6_matrix_82 : decode cX6_matrix 82 = .ok (.getfield 106, 3) := by decide +kernel
theorem dX6_matrix_85 : decode cX6_matrix 85 = .ok (.ireturn, 1) := by decide +kernel
theorem dX6_line_0 : decode cX6_line 0 = .ok (.aload_n 0, 1) := by decide +kernel
theorem dX6_line_1 : decode cX6_line 1 = .ok (.iload_n 1, 1) := by decide +kernel
theorem dX6_line_2 : decode cX6_line 2 = .ok (.invokevirtual 109, 3) := by decide +kernel
theorem dX6_line_5 : decode cX6_line 5 = .ok (.ifCond .eq 18, 3) := by decide +kernel
theorem dX6_line_8 : decode cX6_line 8 = .ok (.aload_n 0, 1) := by decide +kernel
theorem dX6_line_9 : decode cX6_line 9 = .ok (.getfield 12, 3) := by decide +kernel
theorem dX6_line_12 : decode cX6_line 12 = .ok (.getfield 76, 3) := by decide +kernel
theorem dX6_line_15 : decode cX6_line 15 = .ok (.getfield 112, 3) := by decide +kernel
theorem dX6_line_18 : decode cX6_line 18 = .ok (.iload_n 1, 1) := by decide +kernel
theorem dX6_line_19 : decode cX6_line 19 = .ok (.iaload, 1) := by decide +kernel
theorem dX6_line_20 : decode cX6_line 20 = .ok (.goto 4, 3) := by decide +kernel
theorem dX6_line_23 : decode cX6_line 23 = .ok (.iconst (-1), 1) := by decide +kernel
theorem dX6_line_24 : decode cX6_line 24 = .ok (.ireturn, 1) := by decide +kernel
theorem dX6_right_0 : decode cX6_right 0 = .ok (.aload_n 0, 1) := by decide +kernel
theorem dX6_right_1 : decode cX6_right 1 = .ok (.iload_n 1, 1) := by decide +kernel
theorem dX6_right_2 : decode cX6_right 2 = .ok (.invokevirtual 115, 3) := by decide +kernel
theorem dX6_right_5 : decode cX6_right 5 = .ok (.ifCond .eq 18, 3) := by decide +kernel
theorem dX6_right_8 : decode cX6_right 8 = .ok (.aload_n 0, 1) := by decide +kernel
theorem dX6_right_9 : decode cX6_right 9 = .ok (.getfield 12, 3) := by decide +kernel
theorem dX6_right_12 : decode cX6_right 12 = .ok (.getfield 76, 3) := by decide +kernel
theorem dX6_right_15 : decode cX6_right 15 = .ok (.getfield 118, 3) := by decide +kernel
theorem dX6_right_18 : decode cX6_right 18 = .ok (.iload_n 1, 1) := by decide +kernel
theorem dX6_right_19 : decode cX6_right 19 = .ok (.iaload, 1) := by decide +kernel
theorem dX6_right_20 : decode cX6_right 20 = .ok (.goto 4, 3) := by decide +kernel
theorem dX6_right_23 : decode cX6_right 23 = .ok (.iconst (-1), 1) := by decide +kernel
theorem dX6_right_24 : decode cX6_right 24 = .ok (.ireturn, 1) := by decide +kernel
theorem dX6_entry_0 : decode cX6_entry 0 = .ok (.aload_n 0, 1) := by decide +kernel
theorem dX6_entry_1 : decode cX6_entry 1 = .ok (.iload_n 1, 1) := by decide +kernel
theorem dX6_entry_2 : decode cX6_entry 2 = .ok (.invokevirtual 115, 3) := by decide +kernel
theorem dX6_entry_5 : decode cX6_entry 5 = .ok (.ifCond .eq 11, 3) := by decide +kernel
theorem dX6_entry_8 : decode cX6_entry 8 = .ok (.aload_n 0, 1) := by decide +kernel
theorem dX6_entry_9 : decode cX6_entry 9 = .ok (.iload_n 2, 1) := by decide +kernel
theorem dX6_entry_10 : decode cX6_entry 10 = .ok (.invokevirtual 115, 3) := by decide +kernel
theorem dX6_entry_13 : decode cX6_entry 13 = .ok (.ifCond .ne 5, 3) := by decide +kernel
theorem dX6_entry_16 : decode cX6_entry 16 = .ok (.iconst (-1), 1) := by decide +kernel
theorem dX6_entry_17 : decode cX6_entry 17 = .ok (.ireturn, 1) := by decide +kernel
theorem dX6_entry_18 : decode cX6_entry 18 = .ok (.aload_n 0, 1) := by decide +kernel
theorem dX6_entry_19 : decode cX6_entry 19 = .ok (.getfield 12, 3) := by decide +kernel
theorem dX6_entry_22 : decode cX6_entry 22 = .ok (.getfield 76, 3) := by decide +kernel
theorem dX6_entry_25 : decode cX6_entry 25 = .ok (.aload_n 0, 1) := by decide +kernel
theorem dX6_entry_26 : decode cX6_entry 26 = .ok (.getfield 12, 3) := by decide +kernel
theorem dX6_entry_29 : decode cX6_entry 29 = .ok (.getfield 76, 3) := by decide +kernel
theorem dX6_entry_32 : decode cX6_entry 32 = .ok (.getfield 121, 3) := by decide +kernel
theorem dX6_entry_35 : decode cX6_entry 35 = .ok (.iload_n 1, 1) := by decide +kernel
theorem dX6_entry_36 : decode cX6_entry 36 = .ok (.iload_n 2, 1) := by decide +kernel
theorem dX6_entry_37 : decode cX6_entry 37 = .ok (.aload_n 0, 1) := by decide +kernel
theorem dX6_entry_38 : decode cX6_entry 38 = .ok (.getfield 12, 3) := by decide +kernel
theorem dX6_entry_41 : decode cX6_entry 41 = .ok (.getfield 72, 3) := by decide +kernel
theorem dX6_entry_44 : decode cX6_entry 44 = .ok (.invokevirtual 124, 3) := by decide +kernel
theorem dX6_entry_47 : decode cX6_entry 47 = .ok (.ireturn, 1) := by decide +kernel
theorem dX6_count_0 : decode cX6_count 0 = .ok (.iload_n 1, 1) := by decide +kernel
theorem dX6_count_1 : decode cX6_count 1 = .ok (.tableswitch 105 0 7 #[47, 58, 69, 77, 82, 87, 92, 97], 47) := by decide +kernel
theorem dX6_count_48 : decode cX6_count 48 = .ok (.aload_n 0, 1) := by decide +kernel
theorem dX6_count_49 : decode cX6_count 49 = .ok (.getfield 12, 3) := by decide +kernel
theorem dX6_count_52 : decode cX6_count 52 = .ok (.getfield 76, 3) := by decide +kernel
theorem dX6_count_55 : decode cX6_count 55 = .ok (.getfield 106, 3) := by decide +kernel
theorem dX6_count_58 : decode cX6_count 58 = .ok (.ireturn, 1) := by decide +kernel
theorem dX6_count_59 : decode cX6_count 59 = .ok (.aload_n 0, 1) := by decide +kernel
theorem dX6_count_60 : decode cX6_count 60 = .ok (.getfield 12, 3) := by decide +kernel
theorem dX6_count_63 : decode cX6_count 63 = .ok (.getfield 76, 3) := by decide +kernel
theorem dX6_count_66 : decode cX6_count 66 = .ok (.getfield 121, 3) := by decide +kernel
theorem dX6_count_69 : decode cX6_count 69 = .ok (.ireturn, 1) := by decide +kernel
theorem dX6_count_70 : decode cX6_count 70 = .ok (.aload_n 0, 1) := by decide +kernel
theorem dX6_count_71 : decode cX6_count 71 = .ok (.getfield 12, 3) := by decide +kernel
theorem dX6_count_74 : decode cX6_count 74 = .ok (.getfield 72, 3) := by decide +kernel
theorem dX6_count_77 : decode cX6_count 77 = .ok (.ireturn, 1) := by decide +kernel
theorem dX6_count_78 : decode cX6_count 78 = .ok (.aload_n 0, 1) := by decide +kernel
theorem dX6_count_79 : decode cX6_count 79 = .ok (.invokevirtual 128, 3) := by decide +kernel
theorem dX6_count_82 : decode cX6_count 82 = .ok (.ireturn, 1) := by decide +kernel
theorem dX6_count_83 : decode cX6_count 83 = .ok (.aload_n 0, 1) := by decide +kernel
theorem dX6_count_84 : decode cX6_count 84 = .ok (.invokevirtual 132, 3) := by decide +kernel
theorem dX6_count_87 : decode cX6_count 87 = .ok (.ireturn, 1) := by decide +kernel
theorem dX6_count_88 : decode cX6_count 88 = .ok (.aload_n 0, 1) := by decide +kernel
theorem dX6_count_89 : decode cX6_count 89 = .ok (.invokevirtual 135, 3) := by decide +kernel
theorem dX6_count_92 : decode cX6_count 92 = .ok (.ireturn, 1) := by decide +kernel
theorem dX6_count_93 : decode cX6_count 93 = .ok (.aload_n 0, 1) := by decide +kernel
theorem dX6_count_94 : decode cX6_count 94 = .ok (.invokevirtual 138, 3) := by decide +kernel
theorem dX6_count_97 : decode cX6_count 97 = .ok (.ireturn, 1) := by decide +kernel
theorem dX6_count_98 : decode cX6_count 98 = .ok (.aload_n 0, 1) := by decide +kernel
theorem dX6_count_99 : decode cX6_count 99 = .ok (.getfield 12, 3) := by decide +kernel
theorem dX6_count_102 : decode cX6_count 102 = .ok (.getfield 141, 3) := by decide +kernel
theorem dX6_count_105 : decode cX6_count 105 = .ok (.ireturn, 1) := by decide +kernel
theorem dX6_count_106 : decode cX6_count 106 = .ok (.iconst (-1), 1) := by decide +kernel
theorem dX6_count_107 : decode cX6_count 107 = .ok (.ireturn, 1) := by decide +kernel
theorem dX6_change_0 : decode cX6_change 0 = .ok (.aload_n 0, 1) := by decide +kernel
theorem dX6_change_1 : decode cX6_change 1 = .ok (.iload_n 1, 1) := by decide +kernel
theorem dX6_change_2 : decode cX6_change 2 = .ok (.invokevirtual 109, 3) := by decide +kernel
theorem dX6_change_5 : decode cX6_change 5 = .ok (.ifCond .eq 12, 3) := by decide +kernel
theorem dX6_change_8 : decode cX6_change 8 = .ok (.aload_n 0, 1) := by decide +kernel
theorem dX6_change_9 : decode cX6_change 9 = .ok (.iload_n 2, 1) := by decide +kernel
theorem dX6_change_10 : decode cX6_change 10 = .ok (.i2l, 1) := by decide +kernel
theorem dX6_change_11 : decode cX6_change 11 = .ok (.invokevirtual 144, 3) := by decide +kernel
theorem dX6_change_14 : decode cX6_change 14 = .ok (.ifCond .ne 5, 3) := by decide +kernel
theorem dX6_change_17 : decode cX6_change 17 = .ok (.iconst (-1), 1) := by decide +kernel
theorem dX6_change_18 : decode cX6_change 18 = .ok (.ireturn, 1) := by decide +kernel
theorem dX6_change_19 : decode cX6_change 19 = .ok (.aload_n 0, 1) := by decide +kernel
theorem dX6_change_20 : decode cX6_change 20 = .ok (.getfield 12, 3) := by decide +kernel
theorem dX6_change_23 : decode cX6_change 23 = .ok (.getfield 76, 3) := by decide +kernel
theorem dX6_change_26 : decode cX6_change 26 = .ok (.getfield 112, 3) := by decide +kernel
theorem dX6_change_29 : decode cX6_change 29 = .ok (.iload_n 1, 1) := by decide +kernel
theorem dX6_change_30 : decode cX6_change 30 = .ok (.iaload, 1) := by decide +kernel
theorem dX6_change_31 : decode cX6_change 31 = .ok (.istore_n 3, 1) := by decide +kernel
theorem dX6_change_32 : decode cX6_change 32 = .ok (.iload_n 2, 1) := by decide +kernel
theorem dX6_change_33 : decode cX6_change 33 = .ok (.iload_n 3, 1) := by decide +kernel
theorem dX6_change_34 : decode cX6_change 34 = .ok (.if_icmp .ne 6, 3) := by decide +kernel
theorem dX6_change_37 : decode cX6_change 37 = .ok (.bipush (-2), 2) := by decide +kernel
theorem dX6_change_39 : decode cX6_change 39 = .ok (.ireturn, 1) := by decide +kernel
theorem dX6_change_40 : decode cX6_change 40 = .ok (.aload_n 0, 1) := by decide +kernel
theorem dX6_change_41 : decode cX6_change 41 = .ok (.getfield 12, 3) := by decide +kernel
theorem dX6_change_44 : decode cX6_change 44 = .ok (.invokevirtual 148, 3) := by decide +kernel
theorem dX6_change_47 : decode cX6_change 47 = .ok (.aload_n 0, 1) := by decide +kernel
theorem dX6_change_48 : decode cX6_change 48 = .ok (.getfield 12, 3) := by decide +kernel
theorem dX6_change_51 : decode cX6_change 51 = .ok (.getfield 76, 3) := by decide +kernel
theorem dX6_change_54 : decode cX6_change 54 = .ok (.getfield 112, 3) := by decide +kernel
theorem dX6_change_57 : decode cX6_change 57 = .ok (.iload_n 1, 1) := by decide +kernel
theorem dX6_change_58 : decode cX6_change 58 = .ok (.iload_n 2, 1) := by decide +kernel
theorem dX6_change_59 : decode cX6_change 59 = .ok (.iastore, 1) := by decide +kernel
theorem dX6_change_60 : decode cX6_change 60 = .ok (.iload_n 3, 1) := by decide +kernel
theorem dX6_change_61 : decode cX6_change 61 = .ok (.ireturn, 1) := by decide +kernel
theorem dX6_put_0 : decode cX6_put 0 = .ok (.aload_n 0, 1) := by decide +kernel
theorem dX6_put_1 : decode cX6_put 1 = .ok (.iload_n 1, 1) := by decide +kernel
theorem dX6_put_2 : decode cX6_put 2 = .ok (.invokevirtual 115, 3) := by decide +kernel
theorem dX6_put_5 : decode cX6_put 5 = .ok (.ifCond .eq 12, 3) := by decide +kernel
theorem dX6_put_8 : decode cX6_put 8 = .ok (.aload_n 0, 1) := by decide +kernel
theorem dX6_put_9 : decode cX6_put 9 = .ok (.iload_n 2, 1) := by decide +kernel
theorem dX6_put_10 : decode cX6_put 10 = .ok (.i2l, 1) := by decide +kernel
theorem dX6_put_11 : decode cX6_put 11 = .ok (.invokevirtual 144, 3) := by decide +kernel
theorem dX6_put_14 : decode cX6_put 14 = .ok (.ifCond .ne 5, 3) := by decide +kernel
theorem dX6_put_17 : decode cX6_put 17 = .ok (.iconst (-1), 1) := by decide +kernel
theorem dX6_put_18 : decode cX6_put 18 = .ok (.ireturn, 1) := by decide +kernel
theorem dX6_put_19 : decode cX6_put 19 = .ok (.aload_n 0, 1) := by decide +kernel
theorem dX6_put_20 : decode cX6_put 20 = .ok (.getfield 12, 3) := by decide +kernel
theorem dX6_put_23 : decode cX6_put 23 = .ok (.getfield 76, 3) := by decide +kernel
theorem dX6_put_26 : decode cX6_put 26 = .ok (.getfield 118, 3) := by decide +kernel
theorem dX6_put_29 : decode cX6_put 29 = .ok (.iload_n 1, 1) := by decide +kernel
theorem dX6_put_30 : decode cX6_put 30 = .ok (.iaload, 1) := by decide +kernel
theorem dX6_put_31 : decode cX6_put 31 = .ok (.istore_n 3, 1) := by decide +kernel
theorem dX6_put_32 : decode cX6_put 32 = .ok (.iload_n 2, 1) := by decide +kernel
theorem dX6_put_33 : decode cX6_put 33 = .ok (.iload_n 3, 1) := by decide +kernel
theorem dX6_put_34 : decode cX6_put 34 = .ok (.if_icmp .ne 6, 3) := by decide +kernel
theorem dX6_put_37 : decode cX6_put 37 = .ok (.bipush (-2), 2) := by decide +kernel
theorem dX6_put_39 : decode cX6_put 39 = .ok (.ireturn, 1) := by decide +kernel
theorem dX6_put_40 : decode cX6_put 40 = .ok (.aload_n 0, 1) := by decide +kernel
theorem dX6_put_41 : decode cX6_put 41 = .ok (.getfield 12, 3) := by decide +kernel
theorem dX6_put_44 : decode cX6_put 44 = .ok (.invokevirtual 148, 3) := by decide +kernel
theorem dX6_put_47 : decode cX6_put 47 = .ok (.aload_n 0, 1) := by decide +kernel
theorem dX6_put_48 : decode cX6_put 48 = .ok (.getfield 12, 3) := by decide +kernel
theorem dX6_put_51 : decode cX6_put 51 = .ok (.getfield 76, 3) := by decide +kernel
theorem dX6_put_54 : decode cX6_put 54 = .ok (.getfield 118, 3) := by decide +kernel
theorem dX6_put_57 : decode cX6_put 57 = .ok (.iload_n 1, 1) := by decide +kernel
theorem dX6_put_58 : decode cX6_put 58 = .ok (.iload_n 2, 1) := by decide +kernel
theorem dX6_put_59 : decode cX6_put 59 = .ok (.iastore, 1) := by decide +kernel
theorem dX6_put_60 : decode cX6_put 60 = .ok (.iload_n 3, 1) := by decide +kernel
theorem dX6_put_61 : decode cX6_put 61 = .ok (.ireturn, 1) := by decide +kernel
theorem dX6_shape_0 : decode cX6_shape 0 = .ok (.iload_n 1, 1) := by decide +kernel
theorem dX6_shape_1 : decode cX6_shape 1 = .ok (.ifCond .lt 8, 3) := by decide +kernel
theorem dX6_shape_4 : decode cX6_shape 4 = .ok (.iload_n 1, 1) := by decide +kernel
theorem dX6_shape_5 : decode cX6_shape 5 = .ok (.iconst 5, 1) := by decide +kernel
theorem dX6_shape_6 : decode cX6_shape 6 = .ok (.if_icmp .lt 5, 3) := by decide +kernel
theorem dX6_shape_9 : decode cX6_shape 9 = .ok (.iconst (-1), 1) := by decide +kernel
theorem dX6_shape_10 : decode cX6_shape 10 = .ok (.ireturn, 1) := by decide +kernel
theorem dX6_shape_11 : decode cX6_shape 11 = .ok (.aload_n 0, 1) := by decide +kernel
theorem dX6_shape_12 : decode cX6_shape 12 = .ok (.getfield 12, 3) := by decide +kernel
theorem dX6_shape_15 : decode cX6_shape 15 = .ok (.getfield 76, 3) := by decide +kernel
theorem dX6_shape_18 : decode cX6_shape 18 = .ok (.getfield 121, 3) := by decide +kernel
theorem dX6_shape_21 : decode cX6_shape 21 = .ok (.istore_n 2, 1) := by decide +kernel
theorem dX6_shape_22 : decode cX6_shape 22 = .ok (.iload_n 1, 1) := by decide +kernel
theorem dX6_shape_23 : decode cX6_shape 23 = .ok (.iload_n 2, 1) := by decide +kernel
theorem dX6_shape_24 : decode cX6_shape 24 = .ok (.if_icmp .ne 6, 3) := by decide +kernel
theorem dX6_shape_27 : decode cX6_shape 27 = .ok (.bipush (-2), 2) := by decide +kernel
theorem dX6_shape_29 : decode cX6_shape 29 = .ok (.ireturn, 1) := by decide +kernel
theorem dX6_shape_30 : decode cX6_shape 30 = .ok (.aload_n 0, 1) := by decide +kernel
theorem dX6_shape_31 : decode cX6_shape 31 = .ok (.getfield 12, 3) := by decide +kernel
theorem dX6_shape_34 : decode cX6_shape 34 = .ok (.invokevirtual 148, 3) := by decide +kernel
theorem dX6_shape_37 : decode cX6_shape 37 = .ok (.aload_n 0, 1) := by decide +kernel
theorem dX6_shape_38 : decode cX6_shape 38 = .ok (.getfield 12, 3) := by decide +kernel
theorem dX6_shape_41 : decode cX6_shape 41 = .ok (.getfield 76, 3) := by decide +kernel
theorem dX6_shape_44 : decode cX6_shape 44 = .ok (.iload_n 1, 1) := by decide +kernel
theorem dX6_shape_45 : decode cX6_shape 45 = .ok (.putfield 121, 3) := by decide +kernel
theorem dX6_shape_48 : decode cX6_shape 48 = .ok (.iload_n 2, 1) := by decide +kernel
theorem dX6_shape_49 : decode cX6_shape 49 = .ok (.ireturn, 1) := by decide +kernel
theorem dX6_widen_0 : decode cX6_widen 0 = .ok (.aload_n 0, 1) := by decide +kernel
theorem dX6_widen_1 : decode cX6_widen 1 = .ok (.getfield 12, 3) := by decide +kernel
theorem dX6_widen_4 : decode cX6_widen 4 = .ok (.getfield 76, 3) := by decide +kernel
theorem dX6_widen_7 : decode cX6_widen 7 = .ok (.getfield 106, 3) := by decide +kernel
theorem dX6_widen_10 : decode cX6_widen 10 = .ok (.bipush 6, 2) := by decide +kernel
theorem dX6_widen_12 : decode cX6_widen 12 = .ok (.if_icmp .lt 6, 3) := by decide +kernel
theorem dX6_widen_15 : decode cX6_widen 15 = .ok (.bipush (-3), 2) := by decide +kernel
theorem dX6_widen_17 : decode cX6_widen 17 = .ok (.ireturn, 1) := by decide +kernel
theorem dX6_widen_18 : decode cX6_widen 18 = .ok (.aload_n 0, 1) := by decide +kernel
theorem dX6_widen_19 : decode cX6_widen 19 = .ok (.getfield 12, 3) := by decide +kernel
theorem dX6_widen_22 : decode cX6_widen 22 = .ok (.invokevirtual 148, 3) := by decide +kernel
theorem dX6_widen_25 : decode cX6_widen 25 = .ok (.aload_n 0, 1) := by decide +kernel
theorem dX6_widen_26 : decode cX6_widen 26 = .ok (.getfield 12, 3) := by decide +kernel
theorem dX6_widen_29 : decode cX6_widen 29 = .ok (.getfield 76, 3) := by decide +kernel
theorem dX6_widen_32 : decode cX6_widen 32 = .ok (.invokevirtual 151, 3) := by decide +kernel
theorem dX6_widen_35 : decode cX6_widen 35 = .ok (.aload_n 0, 1) := by decide +kernel
theorem dX6_widen_36 : decode cX6_widen 36 = .ok (.getfield 12, 3) := by decide +kernel
theorem dX6_widen_39 : decode cX6_widen 39 = .ok (.getfield 76, 3) := by decide +kernel
theorem dX6_widen_42 : decode cX6_widen 42 = .ok (.getfield 106, 3) := by decide +kernel
theorem dX6_widen_45 : decode cX6_widen 45 = .ok (.ireturn, 1) := by decide +kernel
theorem dX6_cut_0 : decode cX6_cut 0 = .ok (.aload_n 0, 1) := by decide +kernel
theorem dX6_cut_1 : decode cX6_cut 1 = .ok (.getfield 12, 3) := by decide +kernel
theorem dX6_cut_4 : decode cX6_cut 4 = .ok (.getfield 76, 3) := by decide +kernel
theorem dX6_cut_7 : decode cX6_cut 7 = .ok (.getfield 106, 3) := by decide +kernel
theorem dX6_cut_10 : decode cX6_cut 10 = .ok (.iconst 1, 1) := by decide +kernel
theorem dX6_cut_11 : decode cX6_cut 11 = .ok (.if_icmp .gt 6, 3) := by decide +kernel
theorem dX6_cut_14 : decode cX6_cut 14 = .ok (.bipush (-2), 2) := by decide +kernel
theorem dX6_cut_16 : decode cX6_cut 16 = .ok (.ireturn, 1) := by decide +kernel
theorem dX6_cut_17 : decode cX6_cut 17 = .ok (.aload_n 0, 1) := by decide +kernel
theorem dX6_cut_18 : decode cX6_cut 18 = .ok (.getfield 12, 3) := by decide +kernel
theorem dX6_cut_21 : decode cX6_cut 21 = .ok (.invokevirtual 148, 3) := by decide +kernel
theorem dX6_cut_24 : decode cX6_cut 24 = .ok (.aload_n 0, 1) := by decide +kernel
theorem dX6_cut_25 : decode cX6_cut 25 = .ok (.getfield 12, 3) := by decide +kernel
theorem dX6_cut_28 : decode cX6_cut 28 = .ok (.getfield 76, 3) := by decide +kernel
theorem dX6_cut_31 : decode cX6_cut 31 = .ok (.invokevirtual 154, 3) := by decide +kernel
theorem dX6_cut_34 : decode cX6_cut 34 = .ok (.aload_n 0, 1) := by decide +kernel
theorem dX6_cut_35 : decode cX6_cut 35 = .ok (.getfield 12, 3) := by decide +kernel
theorem dX6_cut_38 : decode cX6_cut 38 = .ok (.getfield 76, 3) := by decide +kernel
theorem dX6_cut_41 : decode cX6_cut 41 = .ok (.getfield 106, 3) := by decide +kernel
theorem dX6_cut_44 : decode cX6_cut 44 = .ok (.ireturn, 1) := by decide +kernel
theorem dX6_turn_0 : decode cX6_turn 0 = .ok (.aload_n 0, 1) := by decide +kernel
theorem dX6_turn_1 : decode cX6_turn 1 = .ok (.getfield 12, 3) := by decide +kernel
theorem dX6_turn_4 : decode cX6_turn 4 = .ok (.invokevirtual 148, 3) := by decide +kernel
theorem dX6_turn_7 : decode cX6_turn 7 = .ok (.aload_n 0, 1) := by decide +kernel
theorem dX6_turn_8 : decode cX6_turn 8 = .ok (.getfield 12, 3) := by decide +kernel
theorem dX6_turn_11 : decode cX6_turn 11 = .ok (.getfield 76, 3) := by decide +kernel
theorem dX6_turn_14 : decode cX6_turn 14 = .ok (.invokevirtual 157, 3) := by decide +kernel
theorem dX6_turn_17 : decode cX6_turn 17 = .ok (.aload_n 0, 1) := by decide +kernel
theorem dX6_turn_18 : decode cX6_turn 18 = .ok (.invokevirtual 135, 3) := by decide +kernel
theorem dX6_turn_21 : decode cX6_turn 21 = .ok (.ireturn, 1) := by decide +kernel
theorem dX6_drift_0 : decode cX6_drift 0 = .ok (.iload_n 1, 1) := by decide +kernel
theorem dX6_drift_1 : decode cX6_drift 1 = .ok (.iconst 1, 1) := by decide +kernel
theorem dX6_drift_2 : decode cX6_drift 2 = .ok (.if_icmp .lt 9, 3) := by decide +kernel
theorem dX6_drift_5 : decode cX6_drift 5 = .ok (.iload_n 1, 1) := by decide +kernel
theorem dX6_drift_6 : decode cX6_drift 6 = .ok (.bipush 40, 2) := by decide +kernel
theorem dX6_drift_8 : decode cX6_drift 8 = .ok (.if_icmp .le 5, 3) := by decide +kernel
theorem dX6_drift_11 : decode cX6_drift 11 = .ok (.iconst (-1), 1) := by decide +kernel
theorem dX6_drift_12 : decode cX6_drift 12 = .ok (.ireturn, 1) := by decide +kernel
theorem dX6_drift_13 : decode cX6_drift 13 = .ok (.iconst 0, 1) := by decide +kernel
theorem dX6_drift_14 : decode cX6_drift 14 = .ok (.istore_n 2, 1) := by decide +kernel
theorem dX6_drift_15 : decode cX6_drift 15 = .ok (.iload_n 2, 1) := by decide +kernel
theorem dX6_drift_16 : decode cX6_drift 16 = .ok (.iload_n 1, 1) := by decide +kernel
theorem dX6_drift_17 : decode cX6_drift 17 = .ok (.if_icmp .ge 33, 3) := by decide +kernel
theorem dX6_drift_20 : decode cX6_drift 20 = .ok (.aload_n 0, 1) := by decide +kernel
theorem dX6_drift_21 : decode cX6_drift 21 = .ok (.getfield 12, 3) := by decide +kernel
theorem dX6_drift_24 : decode cX6_drift 24 = .ok (.invokevirtual 148, 3) := by decide +kernel
theorem dX6_drift_27 : decode cX6_drift 27 = .ok (.aload_n 0, 1) := by decide +kernel
theorem dX6_drift_28 : decode cX6_drift 28 = .ok (.getfield 12, 3) := by decide +kernel
theorem dX6_drift_31 : decode cX6_drift 31 = .ok (.getfield 76, 3) := by decide +kernel
theorem dX6_drift_34 : decode cX6_drift 34 = .ok (.aload_n 0, 1) := by decide +kernel
theorem dX6_drift_35 : decode cX6_drift 35 = .ok (.getfield 12, 3) := by decide +kernel
theorem dX6_drift_38 : decode cX6_drift 38 = .ok (.getfield 72, 3) := by decide +kernel
theorem dX6_drift_41 : decode cX6_drift 41 = .ok (.invokevirtual 160, 3) := by decide +kernel
theorem dX6_drift_44 : decode cX6_drift 44 = .ok (.iinc 2 1, 3) := by decide +kernel
theorem dX6_drift_47 : decode cX6_drift 47 = .ok (.goto (-32), 3) := by decide +kernel
theorem dX6_drift_50 : decode cX6_drift 50 = .ok (.aload_n 0, 1) := by decide +kernel
theorem dX6_drift_51 : decode cX6_drift 51 = .ok (.invokevirtual 135, 3) := by decide +kernel
theorem dX6_drift_54 : decode cX6_drift 54 = .ok (.ireturn, 1) := by decide +kernel
theorem dX6_undo_0 : decode cX6_undo 0 = .ok (.aload_n 0, 1) := by decide +kernel
theorem dX6_undo_1 : decode cX6_undo 1 = .ok (.getfield 12, 3) := by decide +kernel
theorem dX6_undo_4 : decode cX6_undo 4 = .ok (.invokevirtual 163, 3) := by decide +kernel
theorem dX6_undo_7 : decode cX6_undo 7 = .ok (.ifCond .eq 13, 3) := by decide +kernel
theorem dX6_undo_10 : decode cX6_undo 10 = .ok (.aload_n 0, 1) := by decide +kernel
theorem dX6_undo_11 : decode cX6_undo 11 = .ok (.getfield 12, 3) := by decide +kernel
theorem dX6_undo_14 : decode cX6_undo 14 = .ok (.getfield 141, 3) := by decide +kernel
theorem dX6_undo_17 : decode cX6_undo 17 = .ok (.goto 5, 3) := by decide +kernel
theorem dX6_undo_20 : decode cX6_undo 20 = .ok (.bipush (-4), 2) := by decide +kernel
theorem dX6_undo_22 : decode cX6_undo 22 = .ok (.ireturn, 1) := by decide +kernel
theorem dX6_seed_0 : decode cX6_seed 0 = .ok (.iload_n 1, 1) := by decide +kernel
theorem dX6_seed_1 : decode cX6_seed 1 = .ok (.ifCond .ge 5, 3) := by decide +kernel
theorem dX6_seed_4 : decode cX6_seed 4 = .ok (.iconst (-1), 1) := by decide +kernel
theorem dX6_seed_5 : decode cX6_seed 5 = .ok (.ireturn, 1) := by decide +kernel
theorem dX6_seed_6 : decode cX6_seed 6 = .ok (.aload_n 0, 1) := by decide +kernel
theorem dX6_seed_7 : decode cX6_seed 7 = .ok (.getfield 12, 3) := by decide +kernel
theorem dX6_seed_10 : decode cX6_seed 10 = .ok (.getfield 76, 3) := by decide +kernel
theorem dX6_seed_13 : decode cX6_seed 13 = .ok (.getfield 96, 3) := by decide +kernel
theorem dX6_seed_16 : decode cX6_seed 16 = .ok (.istore_n 2, 1) := by decide +kernel
theorem dX6_seed_17 : decode cX6_seed 17 = .ok (.aload_n 0, 1) := by decide +kernel
theorem dX6_seed_18 : decode cX6_seed 18 = .ok (.getfield 12, 3) := by decide +kernel
theorem dX6_seed_21 : decode cX6_seed 21 = .ok (.getfield 76, 3) := by decide +kernel
theorem dX6_seed_24 : decode cX6_seed 24 = .ok (.iload_n 1, 1) := by decide +kernel
theorem dX6_seed_25 : decode cX6_seed 25 = .ok (.putfield 96, 3) := by decide +kernel
theorem dX6_seed_28 : decode cX6_seed 28 = .ok (.iload_n 2, 1) := by decide +kernel
theorem dX6_seed_29 : decode cX6_seed 29 = .ok (.ireturn, 1) := by decide +kernel
theorem dX6_corner_0 : decode cX6_corner 0 = .ok (.iload_n 1, 1) := by decide +kernel
theorem dX6_corner_1 : decode cX6_corner 1 = .ok (.ifCond .lt 17, 3) := by decide +kernel
theorem dX6_corner_4 : decode cX6_corner 4 = .ok (.iload_n 1, 1) := by decide +kernel
theorem dX6_corner_5 : decode cX6_corner 5 = .ok (.aload_n 0, 1) := by decide +kernel
theorem dX6_corner_6 : decode cX6_corner 6 = .ok (.getfield 12, 3) := by decide +kernel
theorem dX6_corner_9 : decode cX6_corner 9 = .ok (.getfield 76, 3) := by decide +kernel
theorem dX6_corner_12 : decode cX6_corner 12 = .ok (.getfield 106, 3) := by decide +kernel
theorem dX6_corner_15 : decode cX6_corner 15 = .ok (.if_icmp .le 5, 3) := by decide +kernel
theorem dX6_corner_18 : decode cX6_corner 18 = .ok (.iconst (-1), 1) := by decide +kernel
theorem dX6_corner_19 : decode cX6_corner 19 = .ok (.ireturn, 1) := by decide +kernel
theorem dX6_corner_20 : decode cX6_corner 20 = .ok (.aload_n 0, 1) := by decide +kernel
theorem dX6_corner_21 : decode cX6_corner 21 = .ok (.aload_n 0, 1) := by decide +kernel
theorem dX6_corner_22 : decode cX6_corner 22 = .ok (.getfield 12, 3) := by decide +kernel
theorem dX6_corner_25 : decode cX6_corner 25 = .ok (.getfield 76, 3) := by decide +kernel
theorem dX6_corner_28 : decode cX6_corner 28 = .ok (.iload_n 1, 1) := by decide +kernel
theorem dX6_corner_29 : decode cX6_corner 29 = .ok (.invokevirtual 167, 3) := by decide +kernel
theorem dX6_corner_32 : decode cX6_corner 32 = .ok (.ireturn, 1) := by decide +kernel
theorem dX6_leap_0 : decode cX6_leap 0 = .ok (.aload_n 0, 1) := by decide +kernel
theorem dX6_leap_1 : decode cX6_leap 1 = .ok (.iload_n 1, 1) := by decide +kernel
theorem dX6_leap_2 : decode cX6_leap 2 = .ok (.invokevirtual 115, 3) := by decide +kernel
theorem dX6_leap_5 : decode cX6_leap 5 = .ok (.ifCond .ne 5, 3) := by decide +kernel
theorem dX6_leap_8 : decode cX6_leap 8 = .ok (.iconst (-1), 1) := by decide +kernel
theorem dX6_leap_9 : decode cX6_leap 9 = .ok (.ireturn, 1) := by decide +kernel
theorem dX6_leap_10 : decode cX6_leap 10 = .ok (.iload_n 1, 1) := by decide +kernel
theorem dX6_leap_11 : decode cX6_leap 11 = .ok (.iconst 1, 1) := by decide +kernel
theorem dX6_leap_12 : decode cX6_leap 12 = .ok (.iadd, 1) := by decide +kernel
theorem dX6_leap_13 : decode cX6_leap 13 = .ok (.istore_n 2, 1) := by decide +kernel
theorem dX6_leap_14 : decode cX6_leap 14 = .ok (.iload_n 2, 1) := by decide +kernel
theorem dX6_leap_15 : decode cX6_leap 15 = .ok (.aload_n 0, 1) := by decide +kernel
theorem dX6_leap_16 : decode cX6_leap 16 = .ok (.getfield 12, 3) := by decide +kernel
theorem dX6_leap_19 : decode cX6_leap 19 = .ok (.getfield 76, 3) := by decide +kernel
theorem dX6_leap_22 : decode cX6_leap 22 = .ok (.getfield 106, 3) := by decide +kernel
theorem dX6_leap_25 : decode cX6_leap 25 = .ok (.if_icmp .gt 28, 3) := by decide +kernel
theorem dX6_leap_28 : decode cX6_leap 28 = .ok (.aload_n 0, 1) := by decide +kernel
theorem dX6_leap_29 : decode cX6_leap 29 = .ok (.aload_n 0, 1) := by decide +kernel
theorem dX6_leap_30 : decode cX6_leap 30 = .ok (.getfield 12, 3) := by decide +kernel
theorem dX6_leap_33 : decode cX6_leap 33 = .ok (.getfield 76, 3) := by decide +kernel
theorem dX6_leap_36 : decode cX6_leap 36 = .ok (.iload_n 2, 1) := by decide +kernel
theorem dX6_leap_37 : decode cX6_leap 37 = .ok (.invokevirtual 167, 3) := by decide +kernel
theorem dX6_leap_40 : decode cX6_leap 40 = .ok (.ifCond .eq 7, 3) := by decide +kernel
theorem dX6_leap_43 : decode cX6_leap 43 = .ok (.iload_n 2, 1) := by decide +kernel
theorem dX6_leap_44 : decode cX6_leap 44 = .ok (.iload_n 1, 1) := by decide +kernel
theorem dX6_leap_45 : decode cX6_leap 45 = .ok (.isub, 1) := by decide +kernel
theorem dX6_leap_46 : decode cX6_leap 46 = .ok (.ireturn, 1) := by decide +kernel
theorem dX6_leap_47 : decode cX6_leap 47 = .ok (.iinc 2 1, 3) := by decide +kernel
theorem dX6_leap_50 : decode cX6_leap 50 = .ok (.goto (-36), 3) := by decide +kernel
theorem dX6_leap_53 : decode cX6_leap 53 = .ok (.bipush (-4), 2) := by decide +kernel
theorem dX6_leap_55 : decode cX6_leap 55 = .ok (.ireturn, 1) := by decide +kernel
theorem dX6_solved_0 : decode cX6_solved 0 = .ok (.iload_n 1, 1) := by decide +kernel
theorem dX6_solved_1 : decode cX6_solved 1 = .ok (.iconst (-1), 1) := by decide +kernel
theorem dX6_solved_2 : decode cX6_solved 2 = .ok (.if_icmp .eq 15, 3) := by decide +kernel
theorem dX6_solved_5 : decode cX6_solved 5 = .ok (.aload_n 0, 1) := by decide +kernel
theorem dX6_solved_6 : decode cX6_solved 6 = .ok (.iload_n 1, 1) := by decide +kernel
theorem dX6_solved_7 : decode cX6_solved 7 = .ok (.invokevirtual 115, 3) := by decide +kernel
theorem dX6_solved_10 : decode cX6_solved 10 = .ok (.ifCond .ne 7, 3) := by decide +kernel
theorem dX6_solved_13 : decode cX6_solved 13 = .ok (.ldc2_w 171, 3) := by decide +kernel
theorem dX6_solved_16 : decode cX6_solved 16 = .ok (.lreturn, 1) := by decide +kernel
theorem dX6_solved_17 : decode cX6_solved 17 = .ok (.aload_n 0, 1) := by decide +kernel
theorem dX6_solved_18 : decode cX6_solved 18 = .ok (.invokevirtual 173, 3) := by decide +kernel
theorem dX6_solved_21 : decode cX6_solved 21 = .ok (.lstore_n 2, 1) := by decide +kernel
theorem dX6_solved_22 : decode cX6_solved 22 = .ok (.iload_n 1, 1) := by decide +kernel
theorem dX6_solved_23 : decode cX6_solved 23 = .ok (.iconst (-1), 1) := by decide +kernel
theorem dX6_solved_24 : decode cX6_solved 24 = .ok (.if_icmp .ne 5, 3) := by decide +kernel
theorem dX6_solved_27 : decode cX6_solved 27 = .ok (.lload_n 2, 1) := by decide +kernel
theorem dX6_solved_28 : decode cX6_solved 28 = .ok (.lreturn, 1) := by decide +kernel
theorem dX6_solved_29 : decode cX6_solved 29 = .ok (.lload_n 2, 1) := by decide +kernel
theorem dX6_solved_30 : decode cX6_solved 30 = .ok (.lconst 0, 1) := by decide +kernel
theorem dX6_solved_31 : decode cX6_solved 31 = .ok (.lcmp, 1) := by decide +kernel
theorem dX6_solved_32 : decode cX6_solved 32 = .ok (.ifCond .ne 9, 3) := by decide +kernel
theorem dX6_solved_35 : decode cX6_solved 35 = .ok (.ldc2_w 177, 3) := by decide +kernel
theorem dX6_solved_38 : decode cX6_solved 38 = .ok (.goto 13, 3) := by decide +kernel
theorem dX6_solved_41 : decode cX6_solved 41 = .ok (.aload_n 0, 1) := by decide +kernel
theorem dX6_solved_42 : decode cX6_solved 42 = .ok (.getfield 33, 3) := by decide +kernel
theorem dX6_solved_45 : decode cX6_solved 45 = .ok (.getfield 179, 3) := by decide +kernel
theorem dX6_solved_48 : decode cX6_solved 48 = .ok (.iload_n 1, 1) := by decide +kernel
theorem dX6_solved_49 : decode cX6_solved 49 = .ok (.iaload, 1) := by decide +kernel
theorem dX6_solved_50 : decode cX6_solved 50 = .ok (.i2l, 1) := by decide +kernel
theorem dX6_solved_51 : decode cX6_solved 51 = .ok (.lreturn, 1) := by decide +kernel
theorem dX6_inverse_0 : decode cX6_inverse 0 = .ok (.aload_n 0, 1) := by decide +kernel
theorem dX6_inverse_1 : decode cX6_inverse 1 = .ok (.iload_n 1, 1) := by decide +kernel
theorem dX6_inverse_2 : decode cX6_inverse 2 = .ok (.invokevirtual 115, 3) := by decide +kernel
theorem dX6_inverse_5 : decode cX6_inverse 5 = .ok (.ifCond .eq 11, 3) := by decide +kernel
theorem dX6_inverse_8 : decode cX6_inverse 8 = .ok (.aload_n 0, 1) := by decide +kernel
theorem dX6_inverse_9 : decode cX6_inverse 9 = .ok (.iload_n 2, 1) := by decide +kernel
theorem dX6_inverse_10 : decode cX6_inverse 10 = .ok (.invokevirtual 115, 3) := by decide +kernel
theorem dX6_inverse_13 : decode cX6_inverse 13 = .ok (.ifCond .ne 5, 3) := by decide +kernel
theorem dX6_inverse_16 : decode cX6_inverse 16 = .ok (.iconst (-1), 1) := by decide +kernel
theorem dX6_inverse_17 : decode cX6_inverse 17 = .ok (.ireturn, 1) := by decide +kernel
theorem dX6_inverse_18 : decode cX6_inverse 18 = .ok (.aload_n 0, 1) := by decide +kernel
theorem dX6_inverse_19 : decode cX6_inverse 19 = .ok (.invokevirtual 135, 3) := by decide +kernel
theorem dX6_inverse_22 : decode cX6_inverse 22 = .ok (.ifCond .ne 6, 3) := by decide +kernel
theorem dX6_inverse_25 : decode cX6_inverse 25 = .ok (.bipush (-4), 2) := by decide +kernel
theorem dX6_inverse_27 : decode cX6_inverse 27 = .ok (.ireturn, 1) := by decide +kernel
theorem dX6_inverse_28 : decode cX6_inverse 28 = .ok (.aload_n 0, 1) := by decide +kernel
theorem dX6_inverse_29 : decode cX6_inverse 29 = .ok (.getfield 12, 3) := by decide +kernel
theorem dX6_inverse_32 : decode cX6_inverse 32 = .ok (.getfield 76, 3) := by decide +kernel
theorem dX6_inverse_35 : decode cX6_inverse 35 = .ok (.getfield 106, 3) := by decide +kernel
theorem dX6_inverse_38 : decode cX6_inverse 38 = .ok (.istore_n 3, 1) := by decide +kernel
theorem dX6_inverse_39 : decode cX6_inverse 39 = .ok (.aload_n 0, 1) := by decide +kernel
theorem dX6_inverse_40 : decode cX6_inverse 40 = .ok (.getfield 33, 3) := by decide +kernel
theorem dX6_inverse_43 : decode cX6_inverse 43 = .ok (.aload_n 0, 1) := by decide +kernel
theorem dX6_inverse_44 : decode cX6_inverse 44 = .ok (.getfield 12, 3) := by decide +kernel
theorem dX6_inverse_47 : decode cX6_inverse 47 = .ok (.getfield 76, 3) := by decide +kernel
theorem dX6_inverse_50 : decode cX6_inverse 50 = .ok (.aload_n 0, 1) := by decide +kernel
theorem dX6_inverse_51 : decode cX6_inverse 51 = .ok (.getfield 12, 3) := by decide +kernel
theorem dX6_inverse_54 : decode cX6_inverse 54 = .ok (.getfield 72, 3) := by decide +kernel
theorem dX6_inverse_57 : decode cX6_inverse 57 = .ok (.iload_n 3, 1) := by decide +kernel
theorem dX6_inverse_58 : decode cX6_inverse 58 = .ok (.invokevirtual 182, 3) := by decide +kernel
theorem dX6_inverse_61 : decode cX6_inverse 61 = .ok (.iconst 0, 1) := by decide +kernel
theorem dX6_inverse_62 : decode cX6_inverse 62 = .ok (.istore 4, 2) := by decide +kernel
theorem dX6_inverse_64 : decode cX6_inverse 64 = .ok (.iload 4, 2) := by decide +kernel
theorem dX6_inverse_66 : decode cX6_inverse 66 = .ok (.iload_n 3, 1) := by decide +kernel
theorem dX6_inverse_67 : decode cX6_inverse 67 = .ok (.if_icmp .ge 32, 3) := by decide +kernel
theorem dX6_inverse_70 : decode cX6_inverse 70 = .ok (.aload_n 0, 1) := by decide +kernel
theorem dX6_inverse_71 : decode cX6_inverse 71 = .ok (.getfield 33, 3) := by decide +kernel
theorem dX6_inverse_74 : decode cX6_inverse 74 = .ok (.getfield 186, 3) := by decide +kernel
theorem dX6_inverse_77 : decode cX6_inverse 77 = .ok (.iload 4, 2) := by decide +kernel
theorem dX6_inverse_79 : decode cX6_inverse 79 = .ok (.aaload, 1) := by decide +kernel
theorem dX6_inverse_80 : decode cX6_inverse 80 = .ok (.iload_n 3, 1) := by decide +kernel
theorem dX6_inverse_81 : decode cX6_inverse 81 = .ok (.iload 4, 2) := by decide +kernel
theorem dX6_inverse_83 : decode cX6_inverse 83 = .ok (.iload_n 2, 1) := by decide +kernel
theorem dX6_inverse_84 : decode cX6_inverse 84 = .ok (.if_icmp .ne 7, 3) := by decide +kernel
theorem dX6_inverse_87 : decode cX6_inverse 87 = .ok (.iconst 1, 1) := by decide +kernel
theorem dX6_inverse_88 : decode cX6_inverse 88 = .ok (.goto 4, 3) := by decide +kernel
theorem dX6_inverse_91 : decode cX6_inverse 91 = .ok (.iconst 0, 1) := by decide +kernel
theorem dX6_inverse_92 : decode cX6_inverse 92 = .ok (.iastore, 1) := by decide +kernel
theorem dX6_inverse_93 : decode cX6_inverse 93 = .ok (.iinc 4 1, 3) := by decide +kernel
theorem dX6_inverse_96 : decode cX6_inverse 96 = .ok (.goto (-32), 3) := by decide +kernel
theorem dX6_inverse_99 : decode cX6_inverse 99 = .ok (.aload_n 0, 1) := by decide +kernel
theorem dX6_inverse_100 : decode cX6_inverse 100 = .ok (.getfield 33, 3) := by decide +kernel
theorem dX6_inverse_103 : decode cX6_inverse 103 = .ok (.iload_n 3, 1) := by decide +kernel
theorem dX6_inverse_104 : decode cX6_inverse 104 = .ok (.iload_n 3, 1) := by decide +kernel
theorem dX6_inverse_105 : decode cX6_inverse 105 = .ok (.invokevirtual 190, 3) := by decide +kernel
theorem dX6_inverse_108 : decode cX6_inverse 108 = .ok (.pop, 1) := by decide +kernel
theorem dX6_inverse_109 : decode cX6_inverse 109 = .ok (.aload_n 0, 1) := by decide +kernel
theorem dX6_inverse_110 : decode cX6_inverse 110 = .ok (.getfield 33, 3) := by decide +kernel
theorem dX6_inverse_113 : decode cX6_inverse 113 = .ok (.getfield 179, 3) := by decide +kernel
theorem dX6_inverse_116 : decode cX6_inverse 116 = .ok (.iload_n 1, 1) := by decide +kernel
theorem dX6_inverse_117 : decode cX6_inverse 117 = .ok (.iaload, 1) := by decide +kernel
theorem dX6_inverse_118 : decode cX6_inverse 118 = .ok (.ireturn, 1) := by decide +kernel
theorem dX6_weak_0 : decode cX6_weak 0 = .ok (.aload_n 0, 1) := by decide +kernel
theorem dX6_weak_1 : decode cX6_weak 1 = .ok (.iload_n 1, 1) := by decide +kernel
theorem dX6_weak_2 : decode cX6_weak 2 = .ok (.invokevirtual 109, 3) := by decide +kernel
theorem dX6_weak_5 : decode cX6_weak 5 = .ok (.ifCond .eq 10, 3) := by decide +kernel
theorem dX6_weak_8 : decode cX6_weak 8 = .ok (.iload_n 2, 1) := by decide +kernel
theorem dX6_weak_9 : decode cX6_weak 9 = .ok (.invokestatic 194, 3) := by decide +kernel
theorem dX6_weak_12 : decode cX6_weak 12 = .ok (.ifCond .ne 5, 3) := by decide +kernel
theorem dX6_weak_15 : decode cX6_weak 15 = .ok (.iconst (-1), 1) := by decide +kernel
theorem dX6_weak_16 : decode cX6_weak 16 = .ok (.ireturn, 1) := by decide +kernel
theorem dX6_weak_17 : decode cX6_weak 17 = .ok (.aload_n 0, 1) := by decide +kernel
theorem dX6_weak_18 : decode cX6_weak 18 = .ok (.getfield 40, 3) := by decide +kernel
theorem dX6_weak_21 : decode cX6_weak 21 = .ok (.aload_n 0, 1) := by decide +kernel
theorem dX6_weak_22 : decode cX6_weak 22 = .ok (.getfield 12, 3) := by decide +kernel
theorem dX6_weak_25 : decode cX6_weak 25 = .ok (.getfield 76, 3) := by decide +kernel
theorem dX6_weak_28 : decode cX6_weak 28 = .ok (.invokevirtual 102, 3) := by decide +kernel
theorem dX6_weak_31 : decode cX6_weak 31 = .ok (.iconst 0, 1) := by decide +kernel
theorem dX6_weak_32 : decode cX6_weak 32 = .ok (.istore_n 3, 1) := by decide +kernel
theorem dX6_weak_33 : decode cX6_weak 33 = .ok (.bipush (-4), 2) := by decide +kernel
theorem dX6_weak_35 : decode cX6_weak 35 = .ok (.istore 4, 2) := by decide +kernel
theorem dX6_weak_37 : decode cX6_weak 37 = .ok (.iconst 0, 1) := by decide +kernel
theorem dX6_weak_38 : decode cX6_weak 38 = .ok (.istore 5, 2) := by decide +kernel
theorem dX6_weak_40 : decode cX6_weak 40 = .ok (.iload 5, 2) := by decide +kernel
theorem dX6_weak_42 : decode cX6_weak 42 = .ok (.aload_n 0, 1) := by decide +kernel
theorem dX6_weak_43 : decode cX6_weak 43 = .ok (.getfield 12, 3) := by decide +kernel
theorem dX6_weak_46 : decode cX6_weak 46 = .ok (.getfield 72, 3) := by decide +kernel
theorem dX6_weak_49 : decode cX6_weak 49 = .ok (.if_icmp .ge 54, 3) := by decide +kernel
theorem dX6_weak_52 : decode cX6_weak 52 = .ok (.aload_n 0, 1) := by decide +kernel
theorem dX6_weak_53 : decode cX6_weak 53 = .ok (.getfield 40, 3) := by decide +kernel
theorem dX6_weak_56 : decode cX6_weak 56 = .ok (.getfield 112, 3) := by decide +kernel
theorem dX6_weak_59 : decode cX6_weak 59 = .ok (.iload_n 1, 1) := by decide +kernel
theorem dX6_weak_60 : decode cX6_weak 60 = .ok (.iload 5, 2) := by decide +kernel
theorem dX6_weak_62 : decode cX6_weak 62 = .ok (.iastore, 1) := by decide +kernel
theorem dX6_weak_63 : decode cX6_weak 63 = .ok (.aload_n 0, 1) := by decide +kernel
theorem dX6_weak_64 : decode cX6_weak 64 = .ok (.aload_n 0, 1) := by decide +kernel
theorem dX6_weak_65 : decode cX6_weak 65 = .ok (.getfield 40, 3) := by decide +kernel
theorem dX6_weak_68 : decode cX6_weak 68 = .ok (.aload_n 0, 1) := by decide +kernel
theorem dX6_weak_69 : decode cX6_weak 69 = .ok (.getfield 40, 3) := by decide +kernel
theorem dX6_weak_72 : decode cX6_weak 72 = .ok (.getfield 106, 3) := by decide +kernel
theorem dX6_weak_75 : decode cX6_weak 75 = .ok (.invokevirtual 167, 3) := by decide +kernel
theorem dX6_weak_78 : decode cX6_weak 78 = .ok (.ifCond .ne 19, 3) := by decide +kernel
theorem dX6_weak_81 : decode cX6_weak 81 = .ok (.iload_n 3, 1) := by decide +kernel
theorem dX6_weak_82 : decode cX6_weak 82 = .ok (.ifCond .ne 8, 3) := by decide +kernel
theorem dX6_weak_85 : decode cX6_weak 85 = .ok (.iload 5, 2) := by decide +kernel
theorem dX6_weak_87 : decode cX6_weak 87 = .ok (.goto 5, 3) := by decide +kernel
theorem dX6_weak_90 : decode cX6_weak 90 = .ok (.iload 4, 2) := by decide +kernel
theorem dX6_weak_92 : decode cX6_weak 92 = .ok (.istore 4, 2) := by decide +kernel
theorem dX6_weak_94 : decode cX6_weak 94 = .ok (.iinc 3 1, 3) := by decide +kernel
theorem dX6_weak_97 : decode cX6_weak 97 = .ok (.iinc 5 1, 3) := by decide +kernel
theorem dX6_weak_100 : decode cX6_weak 100 = .ok (.goto (-60), 3) := by decide +kernel
theorem dX6_weak_103 : decode cX6_weak 103 = .ok (.iload_n 2, 1) := by decide +kernel
theorem dX6_weak_104 : decode cX6_weak 104 = .ok (.ifCond .ne 7, 3) := by decide +kernel
theorem dX6_weak_107 : decode cX6_weak 107 = .ok (.iload_n 3, 1) := by decide +kernel
theorem dX6_weak_108 : decode cX6_weak 108 = .ok (.goto 5, 3) := by decide +kernel
theorem dX6_weak_111 : decode cX6_weak 111 = .ok (.iload 4, 2) := by decide +kernel
theorem dX6_weak_113 : decode cX6_weak 113 = .ok (.ireturn, 1) := by decide +kernel
theorem dX6_mend_0 : decode cX6_mend 0 = .ok (.iload_n 1, 1) := by decide +kernel
theorem dX6_mend_1 : decode cX6_mend 1 = .ok (.invokestatic 194, 3) := by decide +kernel
theorem dX6_mend_4 : decode cX6_mend 4 = .ok (.ifCond .ne 5, 3) := by decide +kernel
theorem dX6_mend_7 : decode cX6_mend 7 = .ok (.iconst (-1), 1) := by decide +kernel
theorem dX6_mend_8 : decode cX6_mend 8 = .ok (.ireturn, 1) := by decide +kernel
theorem dX6_mend_9 : decode cX6_mend 9 = .ok (.aload_n 0, 1) := by decide +kernel
theorem dX6_mend_10 : decode cX6_mend 10 = .ok (.invokevirtual 135, 3) := by decide +kernel
theorem dX6_mend_13 : decode cX6_mend 13 = .ok (.ifCond .eq 6, 3) := by decide +kernel
theorem dX6_mend_16 : decode cX6_mend 16 = .ok (.bipush (-2), 2) := by decide +kernel
theorem dX6_mend_18 : decode cX6_mend 18 = .ok (.ireturn, 1) := by decide +kernel
theorem dX6_mend_19 : decode cX6_mend 19 = .ok (.iconst 0, 1) := by decide +kernel
theorem dX6_mend_20 : decode cX6_mend 20 = .ok (.istore_n 2, 1) := by decide +kernel
theorem dX6_mend_21 : decode cX6_mend 21 = .ok (.iload_n 2, 1) := by decide +kernel
theorem dX6_mend_22 : decode cX6_mend 22 = .ok (.aload_n 0, 1) := by decide +kernel
theorem dX6_mend_23 : decode cX6_mend 23 = .ok (.getfield 12, 3) := by decide +kernel
theorem dX6_mend_26 : decode cX6_mend 26 = .ok (.getfield 76, 3) := by decide +kernel
theorem dX6_mend_29 : decode cX6_mend 29 = .ok (.invokevirtual 197, 3) := by decide +kernel
theorem dX6_mend_32 : decode cX6_mend 32 = .ok (.if_icmp .ge 31, 3) := by decide +kernel
theorem dX6_mend_35 : decode cX6_mend 35 = .ok (.aload_n 0, 1) := by decide +kernel
theorem dX6_mend_36 : decode cX6_mend 36 = .ok (.iload_n 2, 1) := by decide +kernel
theorem dX6_mend_37 : decode cX6_mend 37 = .ok (.invokevirtual 200, 3) := by decide +kernel
theorem dX6_mend_40 : decode cX6_mend 40 = .ok (.istore_n 3, 1) := by decide +kernel
theorem dX6_mend_41 : decode cX6_mend 41 = .ok (.iload_n 3, 1) := by decide +kernel
theorem dX6_mend_42 : decode cX6_mend 42 = .ok (.bipush (-4), 2) := by decide +kernel
theorem dX6_mend_44 : decode cX6_mend 44 = .ok (.if_icmp .eq 13, 3) := by decide +kernel
theorem dX6_mend_47 : decode cX6_mend 47 = .ok (.iload_n 1, 1) := by decide +kernel
theorem dX6_mend_48 : decode cX6_mend 48 = .ok (.ifCond .ne 7, 3) := by decide +kernel
theorem dX6_mend_51 : decode cX6_mend 51 = .ok (.iload_n 2, 1) := by decide +kernel
theorem dX6_mend_52 : decode cX6_mend 52 = .ok (.goto 4, 3) := by decide +kernel
theorem dX6_mend_55 : decode cX6_mend 55 = .ok (.iload_n 3, 1) := by decide +kernel
theorem dX6_mend_56 : decode cX6_mend 56 = .ok (.ireturn, 1) := by decide +kernel
theorem dX6_mend_57 : decode cX6_mend 57 = .ok (.iinc 2 1, 3) := by decide +kernel
theorem dX6_mend_60 : decode cX6_mend 60 = .ok (.goto (-39), 3) := by decide +kernel
theorem dX6_mend_63 : decode cX6_mend 63 = .ok (.bipush (-4), 2) := by decide +kernel
theorem dX6_mend_65 : decode cX6_mend 65 = .ok (.ireturn, 1) := by decide +kernel
theorem dX6_term_0 : decode cX6_term 0 = .ok (.aload_n 0, 1) := by decide +kernel
theorem dX6_term_1 : decode cX6_term 1 = .ok (.invokevirtual 138, 3) := by decide +kernel
theorem dX6_term_4 : decode cX6_term 4 = .ok (.istore_n 2, 1) := by decide +kernel
theorem dX6_term_5 : decode cX6_term 5 = .ok (.iload_n 1, 1) := by decide +kernel
theorem dX6_term_6 : decode cX6_term 6 = .ok (.iconst 1, 1) := by decide +kernel
theorem dX6_term_7 : decode cX6_term 7 = .ok (.if_icmp .lt 8, 3) := by decide +kernel
theorem dX6_term_10 : decode cX6_term 10 = .ok (.iload_n 1, 1) := by decide +kernel
theorem dX6_term_11 : decode cX6_term 11 = .ok (.iload_n 2, 1) := by decide +kernel
theorem dX6_term_12 : decode cX6_term 12 = .ok (.if_icmp .le 7, 3) := by decide +kernel
theorem dX6_term_15 : decode cX6_term 15 = .ok (.iconst (-1), 1) := by decide +kernel
theorem dX6_term_16 : decode cX6_term 16 = .ok (.goto 14, 3) := by decide +kernel
theorem dX6_term_19 : decode cX6_term 19 = .ok (.aload_n 0, 1) := by decide +kernel
theorem dX6_term_20 : decode cX6_term 20 = .ok (.getfield 33, 3) := by decide +kernel
theorem dX6_term_23 : decode cX6_term 23 = .ok (.getfield 179, 3) := by decide +kernel
theorem dX6_term_26 : decode cX6_term 26 = .ok (.iload_n 1, 1) := by decide +kernel
theorem dX6_term_27 : decode cX6_term 27 = .ok (.iconst 1, 1) := by decide +kernel
theorem dX6_term_28 : decode cX6_term 28 = .ok (.isub, 1) := by decide +kernel
theorem dX6_term_29 : decode cX6_term 29 = .ok (.iaload, 1) := by decide +kernel
theorem dX6_term_30 : decode cX6_term 30 = .ok (.ireturn, 1) := by decide +kernel
theorem dX6_next_0 : decode cX6_next 0 = .ok (.iload_n 1, 1) := by decide +kernel
theorem dX6_next_1 : decode cX6_next 1 = .ok (.ifCond .lt 9, 3) := by decide +kernel
theorem dX6_next_4 : decode cX6_next 4 = .ok (.iload_n 1, 1) := by decide +kernel
theorem dX6_next_5 : decode cX6_next 5 = .ok (.bipush 20, 2) := by decide +kernel
theorem dX6_next_7 : decode cX6_next 7 = .ok (.if_icmp .le 5, 3) := by decide +kernel
theorem dX6_next_10 : decode cX6_next 10 = .ok (.iconst (-1), 1) := by decide +kernel
theorem dX6_next_11 : decode cX6_next 11 = .ok (.ireturn, 1) := by decide +kernel
theorem dX6_next_12 : decode cX6_next 12 = .ok (.aload_n 0, 1) := by decide +kernel
theorem dX6_next_13 : decode cX6_next 13 = .ok (.invokevirtual 138, 3) := by decide +kernel
theorem dX6_next_16 : decode cX6_next 16 = .ok (.istore_n 2, 1) := by decide +kernel
theorem dX6_next_17 : decode cX6_next 17 = .ok (.aload_n 0, 1) := by decide +kernel
theorem dX6_next_18 : decode cX6_next 18 = .ok (.getfield 12, 3) := by decide +kernel
theorem dX6_next_21 : decode cX6_next 21 = .ok (.getfield 76, 3) := by decide +kernel
theorem dX6_next_24 : decode cX6_next 24 = .ok (.invokevirtual 197, 3) := by decide +kernel
theorem dX6_next_27 : decode cX6_next 27 = .ok (.istore_n 3, 1) := by decide +kernel
theorem dX6_next_28 : decode cX6_next 28 = .ok (.aload_n 0, 1) := by decide +kernel
theorem dX6_next_29 : decode cX6_next 29 = .ok (.getfield 12, 3) := by decide +kernel
theorem dX6_next_32 : decode cX6_next 32 = .ok (.getfield 76, 3) := by decide +kernel
theorem dX6_next_35 : decode cX6_next 35 = .ok (.getfield 112, 3) := by decide +kernel
theorem dX6_next_38 : decode cX6_next 38 = .ok (.iconst 0, 1) := by decide +kernel
theorem dX6_next_39 : decode cX6_next 39 = .ok (.aload_n 0, 1) := by decide +kernel
theorem dX6_next_40 : decode cX6_next 40 = .ok (.getfield 51, 3) := by decide +kernel
theorem dX6_next_43 : decode cX6_next 43 = .ok (.iconst 0, 1) := by decide +kernel
theorem dX6_next_44 : decode cX6_next 44 = .ok (.iload_n 3, 1) := by decide +kernel
theorem dX6_next_45 : decode cX6_next 45 = .ok (.invokestatic 203, 3) := by decide +kernel
theorem dX6_next_48 : decode cX6_next 48 = .ok (.iload_n 3, 1) := by decide +kernel
theorem dX6_next_49 : decode cX6_next 49 = .ok (.istore 4, 2) := by decide +kernel
theorem dX6_next_51 : decode cX6_next 51 = .ok (.iload 4, 2) := by decide +kernel
theorem dX6_next_53 : decode cX6_next 53 = .ok (.iload_n 3, 1) := by decide +kernel
theorem dX6_next_54 : decode cX6_next 54 = .ok (.iload_n 1, 1) := by decide +kernel
theorem dX6_next_55 : decode cX6_next 55 = .ok (.iadd, 1) := by decide +kernel
theorem dX6_next_56 : decode cX6_next 56 = .ok (.if_icmp .gt 72, 3) := by decide +kernel
theorem dX6_next_59 : decode cX6_next 59 = .ok (.iconst 0, 1) := by decide +kernel
theorem dX6_next_60 : decode cX6_next 60 = .ok (.istore 5, 2) := by decide +kernel
theorem dX6_next_62 : decode cX6_next 62 = .ok (.iconst 1, 1) := by decide +kernel
theorem dX6_next_63 : decode cX6_next 63 = .ok (.istore 6, 2) := by decide +kernel
theorem dX6_next_65 : decode cX6_next 65 = .ok (.iload 6, 2) := by decide +kernel
theorem dX6_next_67 : decode cX6_next 67 = .ok (.iload_n 2, 1) := by decide +kernel
theorem dX6_next_68 : decode cX6_next 68 = .ok (.if_icmp .gt 37, 3) := by decide +kernel
theorem dX6_next_71 : decode cX6_next 71 = .ok (.iload 5, 2) := by decide +kernel
theorem dX6_next_73 : decode cX6_next 73 = .ok (.aload_n 0, 1) := by decide +kernel
theorem dX6_next_74 : decode cX6_next 74 = .ok (.getfield 33, 3) := by decide +kernel
theorem dX6_next_77 : decode cX6_next 77 = .ok (.getfield 179, 3) := by decide +kernel
theorem dX6_next_80 : decode cX6_next 80 = .ok (.iload 6, 2) := by decide +kernel
theorem dX6_next_82 : decode cX6_next 82 = .ok (.iconst 1, 1) := by decide +kernel
theorem dX6_next_83 : decode cX6_next 83 = .ok (.isub, 1) := by decide +kernel
theorem dX6_next_84 : decode cX6_next 84 = .ok (.iaload, 1) := by decide +kernel
theorem dX6_next_85 : decode cX6_next 85 = .ok (.aload_n 0, 1) := by decide +kernel
theorem dX6_next_86 : decode cX6_next 86 = .ok (.getfield 51, 3) := by decide +kernel
theorem dX6_next_89 : decode cX6_next 89 = .ok (.iload 4, 2) := by decide +kernel
theorem dX6_next_91 : decode cX6_next 91 = .ok (.iload 6, 2) := by decide +kernel
theorem dX6_next_93 : decode cX6_next 93 = .ok (.isub, 1) := by decide +kernel
theorem dX6_next_94 : decode cX6_next 94 = .ok (.iaload, 1) := by decide +kernel
theorem dX6_next_95 : decode cX6_next 95 = .ok (.imul, 1) := by decide +kernel
theorem dX6_next_96 : decode cX6_next 96 = .ok (.iadd, 1) := by decide +kernel
theorem dX6_next_97 : decode cX6_next 97 = .ok (.istore 5, 2) := by decide +kernel
theorem dX6_next_99 : decode cX6_next 99 = .ok (.iinc 6 1, 3) := by decide +kernel
theorem dX6_next_102 : decode cX6_next 102 = .ok (.goto (-37), 3) := by decide +kernel
theorem dX6_next_105 : decode cX6_next 105 = .ok (.aload_n 0, 1) := by decide +kernel
theorem dX6_next_106 : decode cX6_next 106 = .ok (.getfield 51, 3) := by decide +kernel
theorem dX6_next_109 : decode cX6_next 109 = .ok (.iload 4, 2) := by decide +kernel
theorem dX6_next_111 : decode cX6_next 111 = .ok (.iload 5, 2) := by decide +kernel
theorem dX6_next_113 : decode cX6_next 113 = .ok (.aload_n 0, 1) := by decide +kernel
theorem dX6_next_114 : decode cX6_next 114 = .ok (.getfield 12, 3) := by decide +kernel
theorem dX6_next_117 : decode cX6_next 117 = .ok (.getfield 72, 3) := by decide +kernel
theorem dX6_next_120 : decode cX6_next 120 = .ok (.irem, 1) := by decide +kernel
theorem dX6_next_121 : decode cX6_next 121 = .ok (.iastore, 1) := by decide +kernel
theorem dX6_next_122 : decode cX6_next 122 = .ok (.iinc 4 1, 3) := by decide +kernel
theorem dX6_next_125 : decode cX6_next 125 = .ok (.goto (-74), 3) := by decide +kernel
theorem dX6_next_128 : decode cX6_next 128 = .ok (.aload_n 0, 1) := by decide +kernel
theorem dX6_next_129 : decode cX6_next 129 = .ok (.getfield 51, 3) := by decide +kernel
theorem dX6_next_132 : decode cX6_next 132 = .ok (.iload_n 3, 1) := by decide +kernel
theorem dX6_next_133 : decode cX6_next 133 = .ok (.iload_n 1, 1) := by decide +kernel
theorem dX6_next_134 : decode cX6_next 134 = .ok (.iadd, 1) := by decide +kernel
theorem dX6_next_135 : decode cX6_next 135 = .ok (.iaload, 1) := by decide +kernel
theorem dX6_next_136 : decode cX6_next 136 = .ok (.ireturn, 1) := by decide +kernel
theorem dX6_wiped_0 : decode cX6_wiped 0 = .ok (.iload_n 1, 1) := by decide +kernel
theorem dX6_wiped_1 : decode cX6_wiped 1 = .ok (.ifCond .lt 16, 3) := by decide +kernel
theorem dX6_wiped_4 : decode cX6_wiped 4 = .ok (.iload_n 1, 1) := by decide +kernel
theorem dX6_wiped_5 : decode cX6_wiped 5 = .ok (.bipush 10, 2) := by decide +kernel
theorem dX6_wiped_7 : decode cX6_wiped 7 = .ok (.if_icmp .gt 10, 3) := by decide +kernel
theorem dX6_wiped_10 : decode cX6_wiped 10 = .ok (.iload_n 2, 1) := by decide +kernel
theorem dX6_wiped_11 : decode cX6_wiped 11 = .ok (.invokestatic 194, 3) := by decide +kernel
theorem dX6_wiped_14 : decode cX6_wiped 14 = .ok (.ifCond .ne 7, 3) := by decide +kernel
theorem dX6_wiped_17 : decode cX6_wiped 17 = .ok (.ldc2_w 171, 3) := by decide +kernel
theorem dX6_wiped_20 : decode cX6_wiped 20 = .ok (.lreturn, 1) := by decide +kernel
theorem dX6_wiped_21 : decode cX6_wiped 21 = .ok (.aload_n 0, 1) := by decide +kernel
theorem dX6_wiped_22 : decode cX6_wiped 22 = .ok (.getfield 47, 3) := by decide +kernel
theorem dX6_wiped_25 : decode cX6_wiped 25 = .ok (.aload_n 0, 1) := by decide +kernel
theorem dX6_wiped_26 : decode cX6_wiped 26 = .ok (.getfield 12, 3) := by decide +kernel
theorem dX6_wiped_29 : decode cX6_wiped 29 = .ok (.getfield 76, 3) := by decide +kernel
theorem dX6_wiped_32 : decode cX6_wiped 32 = .ok (.aload_n 0, 1) := by decide +kernel
theorem dX6_wiped_33 : decode cX6_wiped 33 = .ok (.getfield 12, 3) := by decide +kernel
theorem dX6_wiped_36 : decode cX6_wiped 36 = .ok (.getfield 72, 3) := by decide +kernel
theorem dX6_wiped_39 : decode cX6_wiped 39 = .ok (.invokevirtual 209, 3) := by decide +kernel
theorem dX6_wiped_42 : decode cX6_wiped 42 = .ok (.ifCond .ne 7, 3) := by decide +kernel
theorem dX6_wiped_45 : decode cX6_wiped 45 = .ok (.aload_n 0, 1) := by decide +kernel
theorem dX6_wiped_46 : decode cX6_wiped 46 = .ok (.invokevirtual 213, 3) := by decide +kernel
theorem dX6_wiped_49 : decode cX6_wiped 49 = .ok (.aload_n 0, 1) := by decide +kernel
theorem dX6_wiped_50 : decode cX6_wiped 50 = .ok (.getfield 47, 3) := by decide +kernel
theorem dX6_wiped_53 : decode cX6_wiped 53 = .ok (.iload_n 1, 1) := by decide +kernel
theorem dX6_wiped_54 : decode cX6_wiped 54 = .ok (.invokevirtual 216, 3) := by decide +kernel
theorem dX6_wiped_57 : decode cX6_wiped 57 = .ok (.lstore_n 3, 1) := by decide +kernel
theorem dX6_wiped_58 : decode cX6_wiped 58 = .ok (.ldc2_w 220, 3) := by decide +kernel
theorem dX6_wiped_61 : decode cX6_wiped 61 = .ok (.aload_n 0, 1) := by decide +kernel
theorem dX6_wiped_62 : decode cX6_wiped 62 = .ok (.getfield 47, 3) := by decide +kernel
theorem dX6_wiped_65 : decode cX6_wiped 65 = .ok (.getfield 222, 3) := by decide +kernel
theorem dX6_wiped_68 : decode cX6_wiped 68 = .ok (.invokestatic 225, 3) := by decide +kernel
theorem dX6_wiped_71 : decode cX6_wiped 71 = .ok (.lstore 5, 2) := by decide +kernel
theorem dX6_wiped_73 : decode cX6_wiped 73 = .ok (.lload_n 3, 1) := by decide +kernel
theorem dX6_wiped_74 : decode cX6_wiped 74 = .ok (.lload 5, 2) := by decide +kernel
theorem dX6_wiped_76 : decode cX6_wiped 76 = .ok (.invokestatic 229, 3) := by decide +kernel
theorem dX6_wiped_79 : decode cX6_wiped 79 = .ok (.lstore 7, 2) := by decide +kernel
theorem dX6_wiped_81 : decode cX6_wiped 81 = .ok (.iload_n 2, 1) := by decide +kernel
theorem dX6_wiped_82 : decode cX6_wiped 82 = .ok (.ifCond .ne 7, 3) := by decide +kernel
theorem dX6_wiped_85 : decode cX6_wiped 85 = .ok (.lload_n 3, 1) := by decide +kernel
theorem dX6_wiped_86 : decode cX6_wiped 86 = .ok (.goto 5, 3) := by decide +kernel
theorem dX6_wiped_89 : decode cX6_wiped 89 = .ok (.lload 5, 2) := by decide +kernel
theorem dX6_wiped_91 : decode cX6_wiped 91 = .ok (.lload 7, 2) := by decide +kernel
theorem dX6_wiped_93 : decode cX6_wiped 93 = .ok (.ldiv, 1) := by decide +kernel
theorem dX6_wiped_94 : decode cX6_wiped 94 = .ok (.lreturn, 1) := by decide +kernel
theorem dX6_image_0 : decode cX6_image 0 = .ok (.aload_n 0, 1) := by decide +kernel
theorem dX6_image_1 : decode cX6_image 1 = .ok (.getfield 16, 3) := by decide +kernel
theorem dX6_image_4 : decode cX6_image 4 = .ok (.aload_n 0, 1) := by decide +kernel
theorem dX6_image_5 : decode cX6_image 5 = .ok (.getfield 12, 3) := by decide +kernel
theorem dX6_image_8 : decode cX6_image 8 = .ok (.invokevirtual 233, 3) := by decide +kernel
theorem dX6_image_11 : decode cX6_image 11 = .ok (.aload_n 0, 1) := by decide +kernel
theorem dX6_image_12 : decode cX6_image 12 = .ok (.iconst 1, 1) := by decide +kernel
theorem dX6_image_13 : decode cX6_image 13 = .ok (.putfield 19, 3) := by decide +kernel
theorem dX6_image_16 : decode cX6_image 16 = .ok (.iconst 1, 1) := by decide +kernel
theorem dX6_image_17 : decode cX6_image 17 = .ok (.ireturn, 1) := by decide +kernel
theorem dX6_restore_0 : decode cX6_restore 0 = .ok (.aload_n 0, 1) := by decide +kernel
theorem dX6_restore_1 : decode cX6_restore 1 = .ok (.getfield 19, 3) := by decide +kernel
theorem dX6_restore_4 : decode cX6_restore 4 = .ok (.ifCond .ne 6, 3) := by decide +kernel
theorem dX6_restore_7 : decode cX6_restore 7 = .ok (.bipush (-4), 2) := by decide +kernel
theorem dX6_restore_9 : decode cX6_restore 9 = .ok (.ireturn, 1) := by decide +kernel
theorem dX6_restore_10 : decode cX6_restore 10 = .ok (.aload_n 0, 1) := by decide +kernel
theorem dX6_restore_11 : decode cX6_restore 11 = .ok (.getfield 12, 3) := by decide +kernel
theorem dX6_restore_14 : decode cX6_restore 14 = .ok (.aload_n 0, 1) := by decide +kernel
theorem dX6_restore_15 : decode cX6_restore 15 = .ok (.getfield 16, 3) := by decide +kernel
theorem dX6_restore_18 : decode cX6_restore 18 = .ok (.invokevirtual 233, 3) := by decide +kernel
theorem dX6_restore_21 : decode cX6_restore 21 = .ok (.iconst 1, 1) := by decide +kernel
theorem dX6_restore_22 : decode cX6_restore 22 = .ok (.ireturn, 1) := by decide +kernel
theorem dX6_came_0 : decode cX6_came 0 = .ok (.aload_n 0, 1) := by decide +kernel
theorem dX6_came_1 : decode cX6_came 1 = .ok (.getfield 12, 3) := by decide +kernel
theorem dX6_came_4 : decode cX6_came 4 = .ok (.getfield 76, 3) := by decide +kernel
theorem dX6_came_7 : decode cX6_came 7 = .ok (.getfield 106, 3) := by decide +kernel
theorem dX6_came_10 : decode cX6_came 10 = .ok (.istore 4, 2) := by decide +kernel
theorem dX6_came_12 : decode cX6_came 12 = .ok (.aload_n 0, 1) := by decide +kernel
theorem dX6_came_13 : decode cX6_came 13 = .ok (.iload_n 1, 1) := by decide +kernel
theorem dX6_came_14 : decode cX6_came 14 = .ok (.iload_n 2, 1) := by decide +kernel
theorem dX6_came_15 : decode cX6_came 15 = .ok (.iload_n 3, 1) := by decide +kernel
theorem dX6_came_16 : decode cX6_came 16 = .ok (.iconst 2, 1) := by decide +kernel
theorem dX6_came_17 : decode cX6_came 17 = .ok (.iload 4, 2) := by decide +kernel
theorem dX6_came_19 : decode cX6_came 19 = .ok (.imul, 1) := by decide +kernel
theorem dX6_came_20 : decode cX6_came 20 = .ok (.invokevirtual 236, 3) := by decide +kernel
theorem dX6_came_23 : decode cX6_came 23 = .ok (.istore 5, 2) := by decide +kernel
theorem dX6_came_25 : decode cX6_came 25 = .ok (.iload 5, 2) := by decide +kernel
theorem dX6_came_27 : decode cX6_came 27 = .ok (.ifCond .eq 6, 3) := by decide +kernel
theorem dX6_came_30 : decode cX6_came 30 = .ok (.iload 5, 2) := by decide +kernel
theorem dX6_came_32 : decode cX6_came 32 = .ok (.ireturn, 1) := by decide +kernel
theorem dX6_came_33 : decode cX6_came 33 = .ok (.aload_n 0, 1) := by decide +kernel
theorem dX6_came_34 : decode cX6_came 34 = .ok (.aload_n 0, 1) := by decide +kernel
theorem dX6_came_35 : decode cX6_came 35 = .ok (.getfield 63, 3) := by decide +kernel
theorem dX6_came_38 : decode cX6_came 38 = .ok (.iload_n 1, 1) := by decide +kernel
theorem dX6_came_39 : decode cX6_came 39 = .ok (.aaload, 1) := by decide +kernel
theorem dX6_came_40 : decode cX6_came 40 = .ok (.iload_n 3, 1) := by decide +kernel
theorem dX6_came_41 : decode cX6_came 41 = .ok (.aload_n 0, 1) := by decide +kernel
theorem dX6_came_42 : decode cX6_came 42 = .ok (.getfield 55, 3) := by decide +kernel
theorem dX6_came_45 : decode cX6_came 45 = .ok (.invokevirtual 239, 3) := by decide +kernel
theorem dX6_came_48 : decode cX6_came 48 = .ok (.ifCond .eq 24, 3) := by decide +kernel
theorem dX6_came_51 : decode cX6_came 51 = .ok (.aload_n 0, 1) := by decide +kernel
theorem dX6_came_52 : decode cX6_came 52 = .ok (.aload_n 0, 1) := by decide +kernel
theorem dX6_came_53 : decode cX6_came 53 = .ok (.getfield 63, 3) := by decide +kernel
theorem dX6_came_56 : decode cX6_came 56 = .ok (.iload_n 1, 1) := by decide +kernel
theorem dX6_came_57 : decode cX6_came 57 = .ok (.aaload, 1) := by decide +kernel
theorem dX6_came_58 : decode cX6_came 58 = .ok (.iload_n 3, 1) := by decide +kernel
theorem dX6_came_59 : decode cX6_came 59 = .ok (.iload 4, 2) := by decide +kernel
theorem dX6_came_61 : decode cX6_came 61 = .ok (.iadd, 1) := by decide +kernel
theorem dX6_came_62 : decode cX6_came 62 = .ok (.aload_n 0, 1) := by decide +kernel
theorem dX6_came_63 : decode cX6_came 63 = .ok (.getfield 58, 3) := by decide +kernel
theorem dX6_came_66 : decode cX6_came 66 = .ok (.invokevirtual 239, 3) := by decide +kernel
theorem dX6_came_69 : decode cX6_came 69 = .ok (.ifCond .ne 5, 3) := by decide +kernel
theorem dX6_came_72 : decode cX6_came 72 = .ok (.iconst 0, 1) := by decide +kernel
theorem dX6_came_73 : decode cX6_came 73 = .ok (.ireturn, 1) := by decide +kernel
theorem dX6_came_74 : decode cX6_came 74 = .ok (.iconst 0, 1) := by decide +kernel
theorem dX6_came_75 : decode cX6_came 75 = .ok (.istore 6, 2) := by decide +kernel
theorem dX6_came_77 : decode cX6_came 77 = .ok (.iconst 0, 1) := by decide +kernel
theorem dX6_came_78 : decode cX6_came 78 = .ok (.istore 7, 2) := by decide +kernel
theorem dX6_came_80 : decode cX6_came 80 = .ok (.iload 7, 2) := by decide +kernel
theorem dX6_came_82 : decode cX6_came 82 = .ok (.iconst 5, 1) := by decide +kernel
theorem dX6_came_83 : decode cX6_came 83 = .ok (.if_icmp .ge 31, 3) := by decide +kernel
theorem dX6_came_86 : decode cX6_came 86 = .ok (.iload 6, 2) := by decide +kernel
theorem dX6_came_88 : decode cX6_came 88 = .ok (.aload_n 0, 1) := by decide +kernel
theorem dX6_came_89 : decode cX6_came 89 = .ok (.iload 7, 2) := by decide +kernel
theorem dX6_came_91 : decode cX6_came 91 = .ok (.invokevirtual 243, 3) := by decide +kernel
theorem dX6_came_94 : decode cX6_came 94 = .ok (.ifCond .eq 10, 3) := by decide +kernel
theorem dX6_came_97 : decode cX6_came 97 = .ok (.iconst 1, 1) := by decide +kernel
theorem dX6_came_98 : decode cX6_came 98 = .ok (.iload 7, 2) := by decide +kernel
theorem dX6_came_100 : decode cX6_came 100 = .ok (.ishl, 1) := by decide +kernel
theorem dX6_came_101 : decode cX6_came 101 = .ok (.goto 4, 3) := by decide +kernel
theorem dX6_came_104 : decode cX6_came 104 = .ok (.iconst 0, 1) := by decide +kernel
theorem dX6_came_105 : decode cX6_came 105 = .ok (.ior, 1) := by decide +kernel
theorem dX6_came_106 : decode cX6_came 106 = .ok (.istore 6, 2) := by decide +kernel
theorem dX6_came_108 : decode cX6_came 108 = .ok (.iinc 7 1, 3) := by decide +kernel
theorem dX6_came_111 : decode cX6_came 111 = .ok (.goto (-31), 3) := by decide +kernel
theorem dX6_came_114 : decode cX6_came 114 = .ok (.iload 6, 2) := by decide +kernel
theorem dX6_came_116 : decode cX6_came 116 = .ok (.ireturn, 1) := by decide +kernel
theorem dX6_apply_0 : decode cX6_apply 0 = .ok (.aload_n 0, 1) := by decide +kernel
theorem dX6_apply_1 : decode cX6_apply 1 = .ok (.getfield 12, 3) := by decide +kernel
theorem dX6_apply_4 : decode cX6_apply 4 = .ok (.getfield 76, 3) := by decide +kernel
theorem dX6_apply_7 : decode cX6_apply 7 = .ok (.getfield 106, 3) := by decide +kernel
theorem dX6_apply_10 : decode cX6_apply 10 = .ok (.istore 4, 2) := by decide +kernel
theorem dX6_apply_12 : decode cX6_apply 12 = .ok (.aload_n 0, 1) := by decide +kernel
theorem dX6_apply_13 : decode cX6_apply 13 = .ok (.iload_n 1, 1) := by decide +kernel
theorem dX6_apply_14 : decode cX6_apply 14 = .ok (.iload_n 2, 1) := by decide +kernel
theorem dX6_apply_15 : decode cX6_apply 15 = .ok (.iload_n 3, 1) := by decide +kernel
theorem dX6_apply_16 : decode cX6_apply 16 = .ok (.iconst 2, 1) := by decide +kernel
theorem dX6_apply_17 : decode cX6_apply 17 = .ok (.iload 4, 2) := by decide +kernel
theorem dX6_apply_19 : decode cX6_apply 19 = .ok (.imul, 1) := by decide +kernel
theorem dX6_apply_20 : decode cX6_apply 20 = .ok (.invokevirtual 236, 3) := by decide +kernel
theorem dX6_apply_23 : decode cX6_apply 23 = .ok (.istore 5, 2) := by decide +kernel
theorem dX6_apply_25 : decode cX6_apply 25 = .ok (.iload 5, 2) := by decide +kernel
theorem dX6_apply_27 : decode cX6_apply 27 = .ok (.ifCond .eq 6, 3) := by decide +kernel
theorem dX6_apply_30 : decode cX6_apply 30 = .ok (.iload 5, 2) := by decide +kernel
theorem dX6_apply_32 : decode cX6_apply 32 = .ok (.ireturn, 1) := by decide +kernel
theorem dX6_apply_33 : decode cX6_apply 33 = .ok (.aload_n 0, 1) := by decide +kernel
theorem dX6_apply_34 : decode cX6_apply 34 = .ok (.aload_n 0, 1) := by decide +kernel
theorem dX6_apply_35 : decode cX6_apply 35 = .ok (.getfield 63, 3) := by decide +kernel
theorem dX6_apply_38 : decode cX6_apply 38 = .ok (.iload_n 1, 1) := by decide +kernel
theorem dX6_apply_39 : decode cX6_apply 39 = .ok (.aaload, 1) := by decide +kernel
theorem dX6_apply_40 : decode cX6_apply 40 = .ok (.iload_n 3, 1) := by decide +kernel
theorem dX6_apply_41 : decode cX6_apply 41 = .ok (.aload_n 0, 1) := by decide +kernel
theorem dX6_apply_42 : decode cX6_apply 42 = .ok (.getfield 55, 3) := by decide +kernel
theorem dX6_apply_45 : decode cX6_apply 45 = .ok (.invokevirtual 239, 3) := by decide +kernel
theorem dX6_apply_48 : decode cX6_apply 48 = .ok (.ifCond .ne 6, 3) := by decide +kernel
theorem dX6_apply_51 : decode cX6_apply 51 = .ok (.bipush (-2), 2) := by decide +kernel
theorem dX6_apply_53 : decode cX6_apply 53 = .ok (.ireturn, 1) := by decide +kernel
theorem dX6_apply_54 : decode cX6_apply 54 = .ok (.iconst 0, 1) := by decide +kernel
theorem dX6_apply_55 : decode cX6_apply 55 = .ok (.istore 6, 2) := by decide +kernel
theorem dX6_apply_57 : decode cX6_apply 57 = .ok (.iload 6, 2) := by decide +kernel
theorem dX6_apply_59 : decode cX6_apply 59 = .ok (.iload 4, 2) := by decide +kernel
theorem dX6_apply_61 : decode cX6_apply 61 = .ok (.if_icmp .ge 43, 3) := by decide +kernel
theorem dX6_apply_64 : decode cX6_apply 64 = .ok (.aload_n 0, 1) := by decide +kernel
theorem dX6_apply_65 : decode cX6_apply 65 = .ok (.getfield 63, 3) := by decide +kernel
theorem dX6_apply_68 : decode cX6_apply 68 = .ok (.iload_n 1, 1) := by decide +kernel
theorem dX6_apply_69 : decode cX6_apply 69 = .ok (.aaload, 1) := by decide +kernel
theorem dX6_apply_70 : decode cX6_apply 70 = .ok (.getfield 246, 3) := by decide +kernel
theorem dX6_apply_73 : decode cX6_apply 73 = .ok (.iload_n 3, 1) := by decide +kernel
theorem dX6_apply_74 : decode cX6_apply 74 = .ok (.iload 4, 2) := by decide +kernel
theorem dX6_apply_76 : decode cX6_apply 76 = .ok (.iadd, 1) := by decide +kernel
theorem dX6_apply_77 : decode cX6_apply 77 = .ok (.iload 6, 2) := by decide +kernel
theorem dX6_apply_79 : decode cX6_apply 79 = .ok (.iadd, 1) := by decide +kernel
theorem dX6_apply_80 : decode cX6_apply 80 = .ok (.aload_n 0, 1) := by decide +kernel
theorem dX6_apply_81 : decode cX6_apply 81 = .ok (.aload_n 0, 1) := by decide +kernel
theorem dX6_apply_82 : decode cX6_apply 82 = .ok (.getfield 12, 3) := by decide +kernel
theorem dX6_apply_85 : decode cX6_apply 85 = .ok (.getfield 76, 3) := by decide +kernel
theorem dX6_apply_88 : decode cX6_apply 88 = .ok (.getfield 121, 3) := by decide +kernel
theorem dX6_apply_91 : decode cX6_apply 91 = .ok (.iload 6, 2) := by decide +kernel
theorem dX6_apply_93 : decode cX6_apply 93 = .ok (.invokevirtual 250, 3) := by decide +kernel
theorem dX6_apply_96 : decode cX6_apply 96 = .ok (.i2l, 1) := by decide +kernel
theorem dX6_apply_97 : decode cX6_apply 97 = .ok (.lastore, 1) := by decide +kernel
theorem dX6_apply_98 : decode cX6_apply 98 = .ok (.iinc 6 1, 3) := by decide +kernel
theorem dX6_apply_101 : decode cX6_apply 101 = .ok (.goto (-44), 3) := by decide +kernel
theorem dX6_apply_104 : decode cX6_apply 104 = .ok (.iconst 1, 1) := by decide +kernel
theorem dX6_apply_105 : decode cX6_apply 105 = .ok (.ireturn, 1) := by decide +kernel
theorem dX6_film_0 : decode cX6_film 0 = .ok (.aload_n 0, 1) := by decide +kernel
theorem dX6_film_1 : decode cX6_film 1 = .ok (.getfield 12, 3) := by decide +kernel
theorem dX6_film_4 : decode cX6_film 4 = .ok (.getfield 76, 3) := by decide +kernel
theorem dX6_film_7 : decode cX6_film 7 = .ok (.getfield 106, 3) := by decide +kernel
theorem dX6_film_10 : decode cX6_film 10 = .ok (.istore 4, 2) := by decide +kernel
theorem dX6_film_12 : decode cX6_film 12 = .ok (.aload_n 0, 1) := by decide +kernel
theorem dX6_film_13 : decode cX6_film 13 = .ok (.iload_n 1, 1) := by decide +kernel
theorem dX6_film_14 : decode cX6_film 14 = .ok (.iload_n 2, 1) := by decide +kernel
theorem dX6_film_15 : decode cX6_film 15 = .ok (.iload_n 3, 1) := by decide +kernel
theorem dX6_film_16 : decode cX6_film 16 = .ok (.iload 4, 2) := by decide +kernel
theorem dX6_film_18 : decode cX6_film 18 = .ok (.invokevirtual 236, 3) := by decide +kernel
theorem dX6_film_21 : decode cX6_film 21 = .ok (.istore 5, 2) := by decide +kernel
theorem dX6_film_23 : decode cX6_film 23 = .ok (.iload 5, 2) := by decide +kernel
theorem dX6_film_25 : decode cX6_film 25 = .ok (.ifCond .eq 6, 3) := by decide +kernel
theorem dX6_film_28 : decode cX6_film 28 = .ok (.iload 5, 2) := by decide +kernel
theorem dX6_film_30 : decode cX6_film 30 = .ok (.ireturn, 1) := by decide +kernel
theorem dX6_film_31 : decode cX6_film 31 = .ok (.aload_n 0, 1) := by decide +kernel
theorem dX6_film_32 : decode cX6_film 32 = .ok (.invokevirtual 173, 3) := by decide +kernel
theorem dX6_film_35 : decode cX6_film 35 = .ok (.lstore 6, 2) := by decide +kernel
theorem dX6_film_37 : decode cX6_film 37 = .ok (.lload 6, 2) := by decide +kernel
theorem dX6_film_39 : decode cX6_film 39 = .ok (.lconst 0, 1) := by decide +kernel
theorem dX6_film_40 : decode cX6_film 40 = .ok (.lcmp, 1) := by decide +kernel
theorem dX6_film_41 : decode cX6_film 41 = .ok (.ifCond .ne 6, 3) := by decide +kernel
theorem dX6_film_44 : decode cX6_film 44 = .ok (.bipush (-4), 2) := by decide +kernel
theorem dX6_film_46 : decode cX6_film 46 = .ok (.ireturn, 1) := by decide +kernel
theorem dX6_film_47 : decode cX6_film 47 = .ok (.iconst 0, 1) := by decide +kernel
theorem dX6_film_48 : decode cX6_film 48 = .ok (.istore 8, 2) := by decide +kernel
theorem dX6_film_50 : decode cX6_film 50 = .ok (.iload 8, 2) := by decide +kernel
theorem dX6_film_52 : decode cX6_film 52 = .ok (.iload 4, 2) := by decide +kernel
theorem dX6_film_54 : decode cX6_film 54 = .ok (.if_icmp .ge 34, 3) := by decide +kernel
theorem dX6_film_57 : decode cX6_film 57 = .ok (.aload_n 0, 1) := by decide +kernel
theorem dX6_film_58 : decode cX6_film 58 = .ok (.getfield 63, 3) := by decide +kernel
theorem dX6_film_61 : decode cX6_film 61 = .ok (.iload_n 1, 1) := by decide +kernel
theorem dX6_film_62 : decode cX6_film 62 = .ok (.aaload, 1) := by decide +kernel
theorem dX6_film_63 : decode cX6_film 63 = .ok (.getfield 246, 3) := by decide +kernel
theorem dX6_film_66 : decode cX6_film 66 = .ok (.iload_n 3, 1) := by decide +kernel
theorem dX6_film_67 : decode cX6_film 67 = .ok (.iload 8, 2) := by decide +kernel
theorem dX6_film_69 : decode cX6_film 69 = .ok (.iadd, 1) := by decide +kernel
theorem dX6_film_70 : decode cX6_film 70 = .ok (.aload_n 0, 1) := by decide +kernel
theorem dX6_film_71 : decode cX6_film 71 = .ok (.getfield 33, 3) := by decide +kernel
theorem dX6_film_74 : decode cX6_film 74 = .ok (.getfield 179, 3) := by decide +kernel
theorem dX6_film_77 : decode cX6_film 77 = .ok (.iload 8, 2) := by decide +kernel
theorem dX6_film_79 : decode cX6_film 79 = .ok (.iaload, 1) := by decide +kernel
theorem dX6_film_80 : decode cX6_film 80 = .ok (.i2l, 1) := by decide +kernel
theorem dX6_film_81 : decode cX6_film 81 = .ok (.lastore, 1) := by decide +kernel
theorem dX6_film_82 : decode cX6_film 82 = .ok (.iinc 8 1, 3) := by decide +kernel
theorem dX6_film_85 : decode cX6_film 85 = .ok (.goto (-35), 3) := by decide +kernel
theorem dX6_film_88 : decode cX6_film 88 = .ok (.lload 6, 2) := by decide +kernel
theorem dX6_film_90 : decode cX6_film 90 = .ok (.ldc2_w 253, 3) := by decide +kernel
theorem dX6_film_93 : decode cX6_film 93 = .ok (.invokestatic 255, 3) := by decide +kernel
theorem dX6_film_96 : decode cX6_film 96 = .ok (.l2i, 1) := by decide +kernel
theorem dX6_film_97 : decode cX6_film 97 = .ok (.ireturn, 1) := by decide +kernel
theorem dX6_sheet_0 : decode cX6_sheet 0 = .ok (.iload_n 1, 1) := by decide +kernel
theorem dX6_sheet_1 : decode cX6_sheet 1 = .ok (.invokestatic 260, 3) := by decide +kernel
theorem dX6_sheet_4 : decode cX6_sheet 4 = .ok (.ifCond .eq 16, 3) := by decide +kernel
theorem dX6_sheet_7 : decode cX6_sheet 7 = .ok (.iload_n 2, 1) := by decide +kernel
theorem dX6_sheet_8 : decode cX6_sheet 8 = .ok (.invokestatic 263, 3) := by decide +kernel
theorem dX6_sheet_11 : decode cX6_sheet 11 = .ok (.ifCond .eq 9, 3) := by decide +kernel
theorem dX6_sheet_14 : decode cX6_sheet 14 = .ok (.iload_n 3, 1) := by decide +kernel
theorem dX6_sheet_15 : decode cX6_sheet 15 = .ok (.bipush 24, 2) := by decide +kernel
theorem dX6_sheet_17 : decode cX6_sheet 17 = .ok (.if_icmp .le 5, 3) := by decide +kernel
theorem dX6_sheet_20 : decode cX6_sheet 20 = .ok (.iconst (-1), 1) := by decide +kernel
theorem dX6_sheet_21 : decode cX6_sheet 21 = .ok (.ireturn, 1) := by decide +kernel
theorem dX6_sheet_22 : decode cX6_sheet 22 = .ok (.iload_n 3, 1) := by decide +kernel
theorem dX6_sheet_23 : decode cX6_sheet 23 = .ok (.ifCond .ge 6, 3) := by decide +kernel
theorem dX6_sheet_26 : decode cX6_sheet 26 = .ok (.bipush (-14), 2) := by decide +kernel
theorem dX6_sheet_28 : decode cX6_sheet 28 = .ok (.ireturn, 1) := by decide +kernel
theorem dX6_sheet_29 : decode cX6_sheet 29 = .ok (.aload_n 0, 1) := by decide +kernel
theorem dX6_sheet_30 : decode cX6_sheet 30 = .ok (.getfield 63, 3) := by decide +kernel
theorem dX6_sheet_33 : decode cX6_sheet 33 = .ok (.iload_n 1, 1) := by decide +kernel
theorem dX6_sheet_34 : decode cX6_sheet 34 = .ok (.aaload, 1) := by decide +kernel
theorem dX6_sheet_35 : decode cX6_sheet 35 = .ok (.iload_n 2, 1) := by decide +kernel
theorem dX6_sheet_36 : decode cX6_sheet 36 = .ok (.iload_n 3, 1) := by decide +kernel
theorem dX6_sheet_37 : decode cX6_sheet 37 = .ok (.invokevirtual 266, 3) := by decide +kernel
theorem dX6_sheet_40 : decode cX6_sheet 40 = .ok (.iload_n 3, 1) := by decide +kernel
theorem dX6_sheet_41 : decode cX6_sheet 41 = .ok (.ireturn, 1) := by decide +kernel
theorem dX6_drop_0 : decode cX6_drop 0 = .ok (.iload_n 1, 1) := by decide +kernel
theorem dX6_drop_1 : decode cX6_drop 1 = .ok (.invokestatic 260, 3) := by decide +kernel
theorem dX6_drop_4 : decode cX6_drop 4 = .ok (.ifCond .ne 5, 3) := by decide +kernel
theorem dX6_drop_7 : decode cX6_drop 7 = .ok (.iconst (-1), 1) := by decide +kernel
theorem dX6_drop_8 : decode cX6_drop 8 = .ok (.ireturn, 1) := by decide +kernel
theorem dX6_drop_9 : decode cX6_drop 9 = .ok (.aload_n 0, 1) := by decide +kernel
theorem dX6_drop_10 : decode cX6_drop 10 = .ok (.getfield 63, 3) := by decide +kernel
theorem dX6_drop_13 : decode cX6_drop 13 = .ok (.iload_n 1, 1) := by decide +kernel
theorem dX6_drop_14 : decode cX6_drop 14 = .ok (.aaload, 1) := by decide +kernel
theorem dX6_drop_15 : decode cX6_drop 15 = .ok (.invokevirtual 270, 3) := by decide +kernel
theorem dX6_drop_18 : decode cX6_drop 18 = .ok (.ifCond .eq 6, 3) := by decide +kernel
theorem dX6_drop_21 : decode cX6_drop 21 = .ok (.bipush (-11), 2) := by decide +kernel
theorem dX6_drop_23 : decode cX6_drop 23 = .ok (.ireturn, 1) := by decide +kernel
theorem dX6_drop_24 : decode cX6_drop 24 = .ok (.aload_n 0, 1) := by decide +kernel
theorem dX6_drop_25 : decode cX6_drop 25 = .ok (.getfield 63, 3) := by decide +kernel
theorem dX6_drop_28 : decode cX6_drop 28 = .ok (.iload_n 1, 1) := by decide +kernel
theorem dX6_drop_29 : decode cX6_drop 29 = .ok (.aaload, 1) := by decide +kernel
theorem dX6_drop_30 : decode cX6_drop 30 = .ok (.getfield 273, 3) := by decide +kernel
theorem dX6_drop_33 : decode cX6_drop 33 = .ok (.istore_n 2, 1) := by decide +kernel
theorem dX6_drop_34 : decode cX6_drop 34 = .ok (.aload_n 0, 1) := by decide +kernel
theorem dX6_drop_35 : decode cX6_drop 35 = .ok (.getfield 63, 3) := by decide +kernel
theorem dX6_drop_38 : decode cX6_drop 38 = .ok (.iload_n 1, 1) := by decide +kernel
theorem dX6_drop_39 : decode cX6_drop 39 = .ok (.aaload, 1) := by decide +kernel
theorem dX6_drop_40 : decode cX6_drop 40 = .ok (.invokevirtual 274, 3) := by decide +kernel
theorem dX6_drop_43 : decode cX6_drop 43 = .ok (.iload_n 2, 1) := by decide +kernel
theorem dX6_drop_44 : decode cX6_drop 44 = .ok (.ireturn, 1) := by decide +kernel
theorem dX6_item_0 : decode cX6_item 0 = .ok (.aload_n 0, 1) := by decide +kernel
theorem dX6_item_1 : decode cX6_item 1 = .ok (.iload_n 1, 1) := by decide +kernel
theorem dX6_item_2 : decode cX6_item 2 = .ok (.iload_n 2, 1) := by decide +kernel
theorem dX6_item_3 : decode cX6_item 3 = .ok (.iload_n 3, 1) := by decide +kernel
theorem dX6_item_4 : decode cX6_item 4 = .ok (.iconst 1, 1) := by decide +kernel
theorem dX6_item_5 : decode cX6_item 5 = .ok (.invokevirtual 236, 3) := by decide +kernel
theorem dX6_item_8 : decode cX6_item 8 = .ok (.istore 6, 2) := by decide +kernel
theorem dX6_item_10 : decode cX6_item 10 = .ok (.iload 6, 2) := by decide +kernel
theorem dX6_item_12 : decode cX6_item 12 = .ok (.ifCond .eq 6, 3) := by decide +kernel
theorem dX6_item_15 : decode cX6_item 15 = .ok (.iload 6, 2) := by decide +kernel
theorem dX6_item_17 : decode cX6_item 17 = .ok (.ireturn, 1) := by decide +kernel
theorem dX6_item_18 : decode cX6_item 18 = .ok (.aload_n 0, 1) := by decide +kernel
theorem dX6_item_19 : decode cX6_item 19 = .ok (.getfield 63, 3) := by decide +kernel
theorem dX6_item_22 : decode cX6_item 22 = .ok (.iload_n 1, 1) := by decide +kernel
theorem dX6_item_23 : decode cX6_item 23 = .ok (.aaload, 1) := by decide +kernel
theorem dX6_item_24 : decode cX6_item 24 = .ok (.getfield 246, 3) := by decide +kernel
theorem dX6_item_27 : decode cX6_item 27 = .ok (.iload_n 3, 1) := by decide +kernel
theorem dX6_item_28 : decode cX6_item 28 = .ok (.iload_n 2, 1) := by decide +kernel
theorem dX6_item_29 : decode cX6_item 29 = .ok (.lload 4, 2) := by decide +kernel
theorem dX6_item_31 : decode cX6_item 31 = .ok (.invokestatic 277, 3) := by decide +kernel
theorem dX6_item_34 : decode cX6_item 34 = .ok (.lastore, 1) := by decide +kernel
theorem dX6_item_35 : decode cX6_item 35 = .ok (.iconst 1, 1) := by decide +kernel
theorem dX6_item_36 : decode cX6_item 36 = .ok (.ireturn, 1) := by decide +kernel
theorem dX6_copy_0 : decode cX6_copy 0 = .ok (.iload_n 1, 1) := by decide +kernel
theorem dX6_copy_1 : decode cX6_copy 1 = .ok (.invokestatic 260, 3) := by decide +kernel
theorem dX6_copy_4 : decode cX6_copy 4 = .ok (.ifCond .eq 10, 3) := by decide +kernel
theorem dX6_copy_7 : decode cX6_copy 7 = .ok (.iload_n 3, 1) := by decide +kernel
theorem dX6_copy_8 : decode cX6_copy 8 = .ok (.invokestatic 260, 3) := by decide +kernel
theorem dX6_copy_11 : decode cX6_copy 11 = .ok (.ifCond .ne 5, 3) := by decide +kernel
theorem dX6_copy_14 : decode cX6_copy 14 = .ok (.iconst (-1), 1) := by decide +kernel
theorem dX6_copy_15 : decode cX6_copy 15 = .ok (.ireturn, 1) := by decide +kernel
theorem dX6_copy_16 : decode cX6_copy 16 = .ok (.aload_n 0, 1) := by decide +kernel
theorem dX6_copy_17 : decode cX6_copy 17 = .ok (.getfield 63, 3) := by decide +kernel
theorem dX6_copy_20 : decode cX6_copy 20 = .ok (.iload_n 1, 1) := by decide +kernel
theorem dX6_copy_21 : decode cX6_copy 21 = .ok (.aaload, 1) := by decide +kernel
theorem dX6_copy_22 : decode cX6_copy 22 = .ok (.astore 6, 2) := by decide +kernel
theorem dX6_copy_24 : decode cX6_copy 24 = .ok (.aload_n 0, 1) := by decide +kernel
theorem dX6_copy_25 : decode cX6_copy 25 = .ok (.getfield 63, 3) := by decide +kernel
theorem dX6_copy_28 : decode cX6_copy 28 = .ok (.iload_n 3, 1) := by decide +kernel
theorem dX6_copy_29 : decode cX6_copy 29 = .ok (.aaload, 1) := by decide +kernel
theorem dX6_copy_30 : decode cX6_copy 30 = .ok (.astore 7, 2) := by decide +kernel
theorem dX6_copy_32 : decode cX6_copy 32 = .ok (.aload 6, 2) := by decide +kernel
theorem dX6_copy_34 : decode cX6_copy 34 = .ok (.invokevirtual 270, 3) := by decide +kernel
theorem dX6_copy_37 : decode cX6_copy 37 = .ok (.ifCond .ne 11, 3) := by decide +kernel
theorem dX6_copy_40 : decode cX6_copy 40 = .ok (.aload 7, 2) := by decide +kernel
theorem dX6_copy_42 : decode cX6_copy 42 = .ok (.invokevirtual 270, 3) := by decide +kernel
theorem dX6_copy_45 : decode cX6_copy 45 = .ok (.ifCond .eq 6, 3) := by decide +kernel
theorem dX6_copy_48 : decode cX6_copy 48 = .ok (.bipush (-11), 2) := by decide +kernel
theorem dX6_copy_50 : decode cX6_copy 50 = .ok (.ireturn, 1) := by decide +kernel
theorem dX6_copy_51 : decode cX6_copy 51 = .ok (.aload 6, 2) := by decide +kernel
theorem dX6_copy_53 : decode cX6_copy 53 = .ok (.getfield 281, 3) := by decide +kernel
theorem dX6_copy_56 : decode cX6_copy 56 = .ok (.aload 7, 2) := by decide +kernel
theorem dX6_copy_58 : decode cX6_copy 58 = .ok (.getfield 281, 3) := by decide +kernel
theorem dX6_copy_61 : decode cX6_copy 61 = .ok (.if_icmp .eq 6, 3) := by decide +kernel
theorem dX6_copy_64 : decode cX6_copy 64 = .ok (.bipush (-12), 2) := by decide +kernel
theorem dX6_copy_66 : decode cX6_copy 66 = .ok (.ireturn, 1) := by decide +kernel
theorem dX6_copy_67 : decode cX6_copy 67 = .ok (.aload 6, 2) := by decide +kernel
theorem dX6_copy_69 : decode cX6_copy 69 = .ok (.iload_n 2, 1) := by decide +kernel
theorem dX6_copy_70 : decode cX6_copy 70 = .ok (.iload 5, 2) := by decide +kernel
theorem dX6_copy_72 : decode cX6_copy 72 = .ok (.invokevirtual 284, 3) := by decide +kernel
theorem dX6_copy_75 : decode cX6_copy 75 = .ok (.ifCond .eq 15, 3) := by decide +kernel
theorem dX6_copy_78 : decode cX6_copy 78 = .ok (.aload 7, 2) := by decide +kernel
theorem dX6_copy_80 : decode cX6_copy 80 = .ok (.iload 4, 2) := by decide +kernel
theorem dX6_copy_82 : decode cX6_copy 82 = .ok (.iload 5, 2) := by decide +kernel
theorem dX6_copy_84 : decode cX6_copy 84 = .ok (.invokevirtual 284, 3) := by decide +kernel
theorem dX6_copy_87 : decode cX6_copy 87 = .ok (.ifCond .ne 6, 3) := by decide +kernel
theorem dX6_copy_90 : decode cX6_copy 90 = .ok (.bipush (-13), 2) := by decide +kernel
theorem dX6_copy_92 : decode cX6_copy 92 = .ok (.ireturn, 1) := by decide +kernel
theorem dX6_copy_93 : decode cX6_copy 93 = .ok (.aload 6, 2) := by decide +kernel
theorem dX6_copy_95 : decode cX6_copy 95 = .ok (.getfield 246, 3) := by decide +kernel
theorem dX6_copy_98 : decode cX6_copy 98 = .ok (.iload_n 2, 1) := by decide +kernel
theorem dX6_copy_99 : decode cX6_copy 99 = .ok (.aload 7, 2) := by decide +kernel
theorem dX6_copy_101 : decode cX6_copy 101 = .ok (.getfield 246, 3) := by decide +kernel
theorem dX6_copy_104 : decode cX6_copy 104 = .ok (.iload 4, 2) := by decide +kernel
theorem dX6_copy_106 : decode cX6_copy 106 = .ok (.iload 5, 2) := by decide +kernel
theorem dX6_copy_108 : decode cX6_copy 108 = .ok (.invokestatic 203, 3) := by decide +kernel
theorem dX6_copy_111 : decode cX6_copy 111 = .ok (.iload 5, 2) := by decide +kernel
theorem dX6_copy_113 : decode cX6_copy 113 = .ok (.ireturn, 1) := by decide +kernel
theorem dX6_isPrime_0 : decode cX6_isPrime 0 = .ok (.iload_n 0, 1) := by decide +kernel
theorem dX6_isPrime_1 : decode cX6_isPrime 1 = .ok (.iconst 2, 1) := by decide +kernel
theorem dX6_isPrime_2 : decode cX6_isPrime 2 = .ok (.if_icmp .lt 9, 3) := by decide +kernel
theorem dX6_isPrime_5 : decode cX6_isPrime 5 = .ok (.iload_n 0, 1) := by decide +kernel
theorem dX6_isPrime_6 : decode cX6_isPrime 6 = .ok (.bipush 97, 2) := by decide +kernel
theorem dX6_isPrime_8 : decode cX6_isPrime 8 = .ok (.if_icmp .le 5, 3) := by decide +kernel
theorem dX6_isPrime_11 : decode cX6_isPrime 11 = .ok (.iconst 0, 1) := by decide +kernel
theorem dX6_isPrime_12 : decode cX6_isPrime 12 = .ok (.ireturn, 1) := by decide +kernel
theorem dX6_isPrime_13 : decode cX6_isPrime 13 = .ok (.iconst 2, 1) := by decide +kernel
theorem dX6_isPrime_14 : decode cX6_isPrime 14 = .ok (.istore_n 1, 1) := by decide +kernel
theorem dX6_isPrime_15 : decode cX6_isPrime 15 = .ok (.iload_n 1, 1) := by decide +kernel
theorem dX6_isPrime_16 : decode cX6_isPrime 16 = .ok (.iload_n 1, 1) := by decide +kernel
theorem dX6_isPrime_17 : decode cX6_isPrime 17 = .ok (.imul, 1) := by decide +kernel
theorem dX6_isPrime_18 : decode cX6_isPrime 18 = .ok (.iload_n 0, 1) := by decide +kernel
theorem dX6_isPrime_19 : decode cX6_isPrime 19 = .ok (.if_icmp .gt 17, 3) := by decide +kernel
theorem dX6_isPrime_22 : decode cX6_isPrime 22 = .ok (.iload_n 0, 1) := by decide +kernel
theorem dX6_isPrime_23 : decode cX6_isPrime 23 = .ok (.iload_n 1, 1) := by decide +kernel
theorem dX6_isPrime_24 : decode cX6_isPrime 24 = .ok (.irem, 1) := by decide +kernel
theorem dX6_isPrime_25 : decode cX6_isPrime 25 = .ok (.ifCond .ne 5, 3) := by decide +kernel
theorem dX6_isPrime_28 : decode cX6_isPrime 28 = .ok (.iconst 0, 1) := by decide +kernel
theorem dX6_isPrime_29 : decode cX6_isPrime 29 = .ok (.ireturn, 1) := by decide +kernel
theorem dX6_isPrime_30 : decode cX6_isPrime 30 = .ok (.iinc 1 1, 3) := by decide +kernel
theorem dX6_isPrime_33 : decode cX6_isPrime 33 = .ok (.goto (-18), 3) := by decide +kernel
theorem dX6_isPrime_36 : decode cX6_isPrime 36 = .ok (.iconst 1, 1) := by decide +kernel
theorem dX6_isPrime_37 : decode cX6_isPrime 37 = .ok (.ireturn, 1) := by decide +kernel
theorem dX6_isPlace_0 : decode cX6_isPlace 0 = .ok (.iload_n 1, 1) := by decide +kernel
theorem dX6_isPlace_1 : decode cX6_isPlace 1 = .ok (.ifCond .lt 21, 3) := by decide +kernel
theorem dX6_isPlace_4 : decode cX6_isPlace 4 = .ok (.iload_n 1, 1) := by decide +kernel
theorem dX6_isPlace_5 : decode cX6_isPlace 5 = .ok (.aload_n 0, 1) := by decide +kernel
theorem dX6_isPlace_6 : decode cX6_isPlace 6 = .ok (.getfield 12, 3) := by decide +kernel
theorem dX6_isPlace_9 : decode cX6_isPlace 9 = .ok (.getfield 76, 3) := by decide +kernel
theorem dX6_isPlace_12 : decode cX6_isPlace 12 = .ok (.invokevirtual 197, 3) := by decide +kernel
theorem dX6_isPlace_15 : decode cX6_isPlace 15 = .ok (.if_icmp .ge 7, 3) := by decide +kernel
theorem dX6_isPlace_18 : decode cX6_isPlace 18 = .ok (.iconst 1, 1) := by decide +kernel
theorem dX6_isPlace_19 : decode cX6_isPlace 19 = .ok (.goto 4, 3) := by decide +kernel
theorem dX6_isPlace_22 : decode cX6_isPlace 22 = .ok (.iconst 0, 1) := by decide +kernel
theorem dX6_isPlace_23 : decode cX6_isPlace 23 = .ok (.ireturn, 1) := by decide +kernel
theorem dX6_isWithin_0 : decode cX6_isWithin 0 = .ok (.iload_n 1, 1) := by decide +kernel
theorem dX6_isWithin_1 : decode cX6_isWithin 1 = .ok (.ifCond .lt 21, 3) := by decide +kernel
theorem dX6_isWithin_4 : decode cX6_isWithin 4 = .ok (.iload_n 1, 1) := by decide +kernel
theorem dX6_isWithin_5 : decode cX6_isWithin 5 = .ok (.aload_n 0, 1) := by decide +kernel
theorem dX6_isWithin_6 : decode cX6_isWithin 6 = .ok (.getfield 12, 3) := by decide +kernel
theorem dX6_isWithin_9 : decode cX6_isWithin 9 = .ok (.getfield 76, 3) := by decide +kernel
theorem dX6_isWithin_12 : decode cX6_isWithin 12 = .ok (.getfield 106, 3) := by decide +kernel
theorem dX6_isWithin_15 : decode cX6_isWithin 15 = .ok (.if_icmp .ge 7, 3) := by decide +kernel
theorem dX6_isWithin_18 : decode cX6_isWithin 18 = .ok (.iconst 1, 1) := by decide +kernel
theorem dX6_isWithin_19 : decode cX6_isWithin 19 = .ok (.goto 4, 3) := by decide +kernel
theorem dX6_isWithin_22 : decode cX6_isWithin 22 = .ok (.iconst 0, 1) := by decide +kernel
theorem dX6_isWithin_23 : decode cX6_isWithin 23 = .ok (.ireturn, 1) := by decide +kernel
theorem dX6_isNumber_0 : decode cX6_isNumber 0 = .ok (.lload_n 1, 1) := by decide +kernel
theorem dX6_isNumber_1 : decode cX6_isNumber 1 = .ok (.lconst 0, 1) := by decide +kernel
theorem dX6_isNumber_2 : decode cX6_isNumber 2 = .ok (.lcmp, 1) := by decide +kernel
theorem dX6_isNumber_3 : decode cX6_isNumber 3 = .ok (.ifCond .lt 20, 3) := by decide +kernel
theorem dX6_isNumber_6 : decode cX6_isNumber 6 = .ok (.lload_n 1, 1) := by decide +kernel
theorem dX6_isNumber_7 : decode cX6_isNumber 7 = .ok (.aload_n 0, 1) := by decide +kernel
theorem dX6_isNumber_8 : decode cX6_isNumber 8 = .ok (.getfield 12, 3) := by decide +kernel
theorem dX6_isNumber_11 : decode cX6_isNumber 11 = .ok (.getfield 72, 3) := by decide +kernel
theorem dX6_isNumber_14 : decode cX6_isNumber 14 = .ok (.i2l, 1) := by decide +kernel
theorem dX6_isNumber_15 : decode cX6_isNumber 15 = .ok (.lcmp, 1) := by decide +kernel
theorem dX6_isNumber_16 : decode cX6_isNumber 16 = .ok (.ifCond .ge 7, 3) := by decide +kernel
theorem dX6_isNumber_19 : decode cX6_isNumber 19 = .ok (.iconst 1, 1) := by decide +kernel
theorem dX6_isNumber_20 : decode cX6_isNumber 20 = .ok (.goto 4, 3) := by decide +kernel
theorem dX6_isNumber_23 : decode cX6_isNumber 23 = .ok (.iconst 0, 1) := by decide +kernel
theorem dX6_isNumber_24 : decode cX6_isNumber 24 = .ok (.ireturn, 1) := by decide +kernel
theorem dX6_isHalf_0 : decode cX6_isHalf 0 = .ok (.iload_n 0, 1) := by decide +kernel
theorem dX6_isHalf_1 : decode cX6_isHalf 1 = .ok (.ifCond .eq 8, 3) := by decide +kernel
theorem dX6_isHalf_4 : decode cX6_isHalf 4 = .ok (.iload_n 0, 1) := by decide +kernel
theorem dX6_isHalf_5 : decode cX6_isHalf 5 = .ok (.iconst 1, 1) := by decide +kernel
theorem dX6_isHalf_6 : decode cX6_isHalf 6 = .ok (.if_icmp .ne 7, 3) := by decide +kernel
theorem dX6_isHalf_9 : decode cX6_isHalf 9 = .ok (.iconst 1, 1) := by decide +kernel
theorem dX6_isHalf_10 : decode cX6_isHalf 10 = .ok (.goto 4, 3) := by decide +kernel
theorem dX6_isHalf_13 : decode cX6_isHalf 13 = .ok (.iconst 0, 1) := by decide +kernel
theorem dX6_isHalf_14 : decode cX6_isHalf 14 = .ok (.ireturn, 1) := by decide +kernel
theorem dX6_isSheet_0 : decode cX6_isSheet 0 = .ok (.iload_n 0, 1) := by decide +kernel
theorem dX6_isSheet_1 : decode cX6_isSheet 1 = .ok (.ifCond .lt 12, 3) := by decide +kernel
theorem dX6_isSheet_4 : decode cX6_isSheet 4 = .ok (.iload_n 0, 1) := by decide +kernel
theorem dX6_isSheet_5 : decode cX6_isSheet 5 = .ok (.iconst 4, 1) := by decide +kernel
theorem dX6_isSheet_6 : decode cX6_isSheet 6 = .ok (.if_icmp .ge 7, 3) := by decide +kernel
theorem dX6_isSheet_9 : decode cX6_isSheet 9 = .ok (.iconst 1, 1) := by decide +kernel
theorem dX6_isSheet_10 : decode cX6_isSheet 10 = .ok (.goto 4, 3) := by decide +kernel
theorem dX6_isSheet_13 : decode cX6_isSheet 13 = .ok (.iconst 0, 1) := by decide +kernel
theorem dX6_isSheet_14 : decode cX6_isSheet 14 = .ok (.ireturn, 1) := by decide +kernel
theorem dX6_isLane_0 : decode cX6_isLane 0 = .ok (.iload_n 0, 1) := by decide +kernel
theorem dX6_isLane_1 : decode cX6_isLane 1 = .ok (.ifCond .lt 12, 3) := by decide +kernel
theorem dX6_isLane_4 : decode cX6_isLane 4 = .ok (.iload_n 0, 1) := by decide +kernel
theorem dX6_isLane_5 : decode cX6_isLane 5 = .ok (.iconst 4, 1) := by decide +kernel
theorem dX6_isLane_6 : decode cX6_isLane 6 = .ok (.if_icmp .ge 7, 3) := by decide +kernel
theorem dX6_isLane_9 : decode cX6_isLane 9 = .ok (.iconst 1, 1) := by decide +kernel
theorem dX6_isLane_10 : decode cX6_isLane 10 = .ok (.goto 4, 3) := by decide +kernel
theorem dX6_isLane_13 : decode cX6_isLane 13 = .ok (.iconst 0, 1) := by decide +kernel
theorem dX6_isLane_14 : decode cX6_isLane 14 = .ok (.ireturn, 1) := by decide +kernel
theorem dX6_refusalOf_0 : decode cX6_refusalOf 0 = .ok (.iload_n 1, 1) := by decide +kernel
theorem dX6_refusalOf_1 : decode cX6_refusalOf 1 = .ok (.invokestatic 260, 3) := by decide +kernel
theorem dX6_refusalOf_4 : decode cX6_refusalOf 4 = .ok (.ifCond .eq 10, 3) := by decide +kernel
theorem dX6_refusalOf_7 : decode cX6_refusalOf 7 = .ok (.iload_n 2, 1) := by decide +kernel
theorem dX6_refusalOf_8 : decode cX6_refusalOf 8 = .ok (.invokestatic 263, 3) := by decide +kernel
theorem dX6_refusalOf_11 : decode cX6_refusalOf 11 = .ok (.ifCond .ne 5, 3) := by decide +kernel
theorem dX6_refusalOf_14 : decode cX6_refusalOf 14 = .ok (.iconst (-1), 1) := by decide +kernel
theorem dX6_refusalOf_15 : decode cX6_refusalOf 15 = .ok (.ireturn, 1) := by decide +kernel
theorem dX6_refusalOf_16 : decode cX6_refusalOf 16 = .ok (.aload_n 0, 1) := by decide +kernel
theorem dX6_refusalOf_17 : decode cX6_refusalOf 17 = .ok (.getfield 63, 3) := by decide +kernel
theorem dX6_refusalOf_20 : decode cX6_refusalOf 20 = .ok (.iload_n 1, 1) := by decide +kernel
theorem dX6_refusalOf_21 : decode cX6_refusalOf 21 = .ok (.aaload, 1) := by decide +kernel
theorem dX6_refusalOf_22 : decode cX6_refusalOf 22 = .ok (.invokevirtual 270, 3) := by decide +kernel
theorem dX6_refusalOf_25 : decode cX6_refusalOf 25 = .ok (.ifCond .eq 6, 3) := by decide +kernel
theorem dX6_refusalOf_28 : decode cX6_refusalOf 28 = .ok (.bipush (-11), 2) := by decide +kernel
theorem dX6_refusalOf_30 : decode cX6_refusalOf 30 = .ok (.ireturn, 1) := by decide +kernel
theorem dX6_refusalOf_31 : decode cX6_refusalOf 31 = .ok (.aload_n 0, 1) := by decide +kernel
theorem dX6_refusalOf_32 : decode cX6_refusalOf 32 = .ok (.getfield 63, 3) := by decide +kernel
theorem dX6_refusalOf_35 : decode cX6_refusalOf 35 = .ok (.iload_n 1, 1) := by decide +kernel
theorem dX6_refusalOf_36 : decode cX6_refusalOf 36 = .ok (.aaload, 1) := by decide +kernel
theorem dX6_refusalOf_37 : decode cX6_refusalOf 37 = .ok (.getfield 281, 3) := by decide +kernel
theorem dX6_refusalOf_40 : decode cX6_refusalOf 40 = .ok (.iload_n 2, 1) := by decide +kernel
theorem dX6_refusalOf_41 : decode cX6_refusalOf 41 = .ok (.if_icmp .eq 6, 3) := by decide +kernel
theorem dX6_refusalOf_44 : decode cX6_refusalOf 44 = .ok (.bipush (-12), 2) := by decide +kernel
theorem dX6_refusalOf_46 : decode cX6_refusalOf 46 = .ok (.ireturn, 1) := by decide +kernel
theorem dX6_refusalOf_47 : decode cX6_refusalOf 47 = .ok (.aload_n 0, 1) := by decide +kernel
theorem dX6_refusalOf_48 : decode cX6_refusalOf 48 = .ok (.getfield 63, 3) := by decide +kernel
theorem dX6_refusalOf_51 : decode cX6_refusalOf 51 = .ok (.iload_n 1, 1) := by decide +kernel
theorem dX6_refusalOf_52 : decode cX6_refusalOf 52 = .ok (.aaload, 1) := by decide +kernel
theorem dX6_refusalOf_53 : decode cX6_refusalOf 53 = .ok (.iload_n 3, 1) := by decide +kernel
theorem dX6_refusalOf_54 : decode cX6_refusalOf 54 = .ok (.iload 4, 2) := by decide +kernel
theorem dX6_refusalOf_56 : decode cX6_refusalOf 56 = .ok (.invokevirtual 284, 3) := by decide +kernel
theorem dX6_refusalOf_59 : decode cX6_refusalOf 59 = .ok (.ifCond .eq 7, 3) := by decide +kernel
theorem dX6_refusalOf_62 : decode cX6_refusalOf 62 = .ok (.iconst 0, 1) := by decide +kernel
theorem dX6_refusalOf_63 : decode cX6_refusalOf 63 = .ok (.goto 5, 3) := by decide +kernel
theorem dX6_refusalOf_66 : decode cX6_refusalOf 66 = .ok (.bipush (-13), 2) := by decide +kernel
theorem dX6_refusalOf_68 : decode cX6_refusalOf 68 = .ok (.ireturn, 1) := by decide +kernel
theorem dX6_cornerOf_0 : decode cX6_cornerOf 0 = .ok (.aload_n 0, 1) := by decide +kernel
theorem dX6_cornerOf_1 : decode cX6_cornerOf 1 = .ok (.getfield 33, 3) := by decide +kernel
theorem dX6_cornerOf_4 : decode cX6_cornerOf 4 = .ok (.aload_n 1, 1) := by decide +kernel
theorem dX6_cornerOf_5 : decode cX6_cornerOf 5 = .ok (.aload_n 0, 1) := by decide +kernel
theorem dX6_cornerOf_6 : decode cX6_cornerOf 6 = .ok (.getfield 12, 3) := by decide +kernel
theorem dX6_cornerOf_9 : decode cX6_cornerOf 9 = .ok (.getfield 72, 3) := by decide +kernel
theorem dX6_cornerOf_12 : decode cX6_cornerOf 12 = .ok (.iload_n 2, 1) := by decide +kernel
theorem dX6_cornerOf_13 : decode cX6_cornerOf 13 = .ok (.invokevirtual 182, 3) := by decide +kernel
theorem dX6_cornerOf_16 : decode cX6_cornerOf 16 = .ok (.aload_n 0, 1) := by decide +kernel
theorem dX6_cornerOf_17 : decode cX6_cornerOf 17 = .ok (.getfield 33, 3) := by decide +kernel
theorem dX6_cornerOf_20 : decode cX6_cornerOf 20 = .ok (.iload_n 2, 1) := by decide +kernel
theorem dX6_cornerOf_21 : decode cX6_cornerOf 21 = .ok (.invokevirtual 288, 3) := by decide +kernel
theorem dX6_cornerOf_24 : decode cX6_cornerOf 24 = .ok (.ireturn, 1) := by decide +kernel
theorem dX6_wholeCorner_0 : decode cX6_wholeCorner 0 = .ok (.aload_n 0, 1) := by decide +kernel
theorem dX6_wholeCorner_1 : decode cX6_wholeCorner 1 = .ok (.aload_n 0, 1) := by decide +kernel
theorem dX6_wholeCorner_2 : decode cX6_wholeCorner 2 = .ok (.getfield 12, 3) := by decide +kernel
theorem dX6_wholeCorner_5 : decode cX6_wholeCorner 5 = .ok (.getfield 76, 3) := by decide +kernel
theorem dX6_wholeCorner_8 : decode cX6_wholeCorner 8 = .ok (.aload_n 0, 1) := by decide +kernel
theorem dX6_wholeCorner_9 : decode cX6_wholeCorner 9 = .ok (.getfield 12, 3) := by decide +kernel
theorem dX6_wholeCorner_12 : decode cX6_wholeCorner 12 = .ok (.getfield 76, 3) := by decide +kernel
theorem dX6_wholeCorner_15 : decode cX6_wholeCorner 15 = .ok (.getfield 106, 3) := by decide +kernel
theorem dX6_wholeCorner_18 : decode cX6_wholeCorner 18 = .ok (.invokevirtual 167, 3) := by decide +kernel
theorem dX6_wholeCorner_21 : decode cX6_wholeCorner 21 = .ok (.ireturn, 1) := by decide +kernel
theorem dX6_singularCorners_0 : decode cX6_singularCorners 0 = .ok (.iconst 0, 1) := by decide +kernel
theorem dX6_singularCorners_1 : decode cX6_singularCorners 1 = .ok (.istore_n 1, 1) := by decide +kernel
theorem dX6_singularCorners_2 : decode cX6_singularCorners 2 = .ok (.iconst 1, 1) := by decide +kernel
theorem dX6_singularCorners_3 : decode cX6_singularCorners 3 = .ok (.istore_n 2, 1) := by decide +kernel
theorem dX6_singularCorners_4 : decode cX6_singularCorners 4 = .ok (.iload_n 2, 1) := by decide +kernel
theorem dX6_singularCorners_5 : decode cX6_singularCorners 5 = .ok (.aload_n 0, 1) := by decide +kernel
theorem dX6_singularCorners_6 : decode cX6_singularCorners 6 = .ok (.getfield 12, 3) := by decide +kernel
theorem dX6_singularCorners_9 : decode cX6_singularCorners 9 = .ok (.getfield 76, 3) := by decide +kernel
theorem dX6_singularCorners_12 : decode cX6_singularCorners 12 = .ok (.getfield 106, 3) := by decide +kernel
theorem dX6_singularCorners_15 : decode cX6_singularCorners 15 = .ok (.if_icmp .gt 34, 3) := by decide +kernel
theorem dX6_singularCorners_18 : decode cX6_singularCorners 18 = .ok (.iload_n 1, 1) := by decide +kernel
theorem dX6_singularCorners_19 : decode cX6_singularCorners 19 = .ok (.aload_n 0, 1) := by decide +kernel
theorem dX6_singularCorners_20 : decode cX6_singularCorners 20 = .ok (.aload_n 0, 1) := by decide +kernel
theorem dX6_singularCorners_21 : decode cX6_singularCorners 21 = .ok (.getfield 12, 3) := by decide +kernel
theorem dX6_singularCorners_24 : decode cX6_singularCorners 24 = .ok (.getfield 76, 3) := by decide +kernel
theorem dX6_singularCorners_27 : decode cX6_singularCorners 27 = .ok (.iload_n 2, 1) := by decide +kernel
theorem dX6_singularCorners_28 : decode cX6_singularCorners 28 = .ok (.invokevirtual 167, 3) := by decide +kernel
theorem dX6_singularCorners_31 : decode cX6_singularCorners 31 = .ok (.ifCond .ne 9, 3) := by decide +kernel
theorem dX6_singularCorners_34 : decode cX6_singularCorners 34 = .ok (.iconst 1, 1) := by decide +kernel
theorem dX6_singularCorners_35 : decode cX6_singularCorners 35 = .ok (.iload_n 2, 1) := by decide +kernel
theorem dX6_singularCorners_36 : decode cX6_singularCorners 36 = .ok (.ishl, 1) := by decide +kernel
theorem dX6_singularCorners_37 : decode cX6_singularCorners 37 = .ok (.goto 4, 3) := by decide +kernel
theorem dX6_singularCorners_40 : decode cX6_singularCorners 40 = .ok (.iconst 0, 1) := by decide +kernel
theorem dX6_singularCorners_41 : decode cX6_singularCorners 41 = .ok (.ior, 1) := by decide +kernel
theorem dX6_singularCorners_42 : decode cX6_singularCorners 42 = .ok (.istore_n 1, 1) := by decide +kernel
theorem dX6_singularCorners_43 : decode cX6_singularCorners 43 = .ok (.iinc 2 1, 3) := by decide +kernel
theorem dX6_singularCorners_46 : decode cX6_singularCorners 46 = .ok (.goto (-42), 3) := by decide +kernel
theorem dX6_singularCorners_49 : decode cX6_singularCorners 49 = .ok (.iload_n 1, 1) := by decide +kernel
theorem dX6_singularCorners_50 : decode cX6_singularCorners 50 = .ok (.ireturn, 1) := by decide +kernel
theorem dX6_rankOfMatrix_0 : decode cX6_rankOfMatrix 0 = .ok (.aload_n 0, 1) := by decide +kernel
theorem dX6_rankOfMatrix_1 : decode cX6_rankOfMatrix 1 = .ok (.getfield 12, 3) := by decide +kernel
theorem dX6_rankOfMatrix_4 : decode cX6_rankOfMatrix 4 = .ok (.getfield 76, 3) := by decide +kernel
theorem dX6_rankOfMatrix_7 : decode cX6_rankOfMatrix 7 = .ok (.getfield 106, 3) := by decide +kernel
theorem dX6_rankOfMatrix_10 : decode cX6_rankOfMatrix 10 = .ok (.istore_n 1, 1) := by decide +kernel
theorem dX6_rankOfMatrix_11 : decode cX6_rankOfMatrix 11 = .ok (.aload_n 0, 1) := by decide +kernel
theorem dX6_rankOfMatrix_12 : decode cX6_rankOfMatrix 12 = .ok (.getfield 33, 3) := by decide +kernel
theorem dX6_rankOfMatrix_15 : decode cX6_rankOfMatrix 15 = .ok (.aload_n 0, 1) := by decide +kernel
theorem dX6_rankOfMatrix_16 : decode cX6_rankOfMatrix 16 = .ok (.getfield 12, 3) := by decide +kernel
theorem dX6_rankOfMatrix_19 : decode cX6_rankOfMatrix 19 = .ok (.getfield 76, 3) := by decide +kernel
theorem dX6_rankOfMatrix_22 : decode cX6_rankOfMatrix 22 = .ok (.aload_n 0, 1) := by decide +kernel
theorem dX6_rankOfMatrix_23 : decode cX6_rankOfMatrix 23 = .ok (.getfield 12, 3) := by decide +kernel
theorem dX6_rankOfMatrix_26 : decode cX6_rankOfMatrix 26 = .ok (.getfield 72, 3) := by decide +kernel
theorem dX6_rankOfMatrix_29 : decode cX6_rankOfMatrix 29 = .ok (.iload_n 1, 1) := by decide +kernel
theorem dX6_rankOfMatrix_30 : decode cX6_rankOfMatrix 30 = .ok (.invokevirtual 182, 3) := by decide +kernel
theorem dX6_rankOfMatrix_33 : decode cX6_rankOfMatrix 33 = .ok (.aload_n 0, 1) := by decide +kernel
theorem dX6_rankOfMatrix_34 : decode cX6_rankOfMatrix 34 = .ok (.getfield 33, 3) := by decide +kernel
theorem dX6_rankOfMatrix_37 : decode cX6_rankOfMatrix 37 = .ok (.iload_n 1, 1) := by decide +kernel
theorem dX6_rankOfMatrix_38 : decode cX6_rankOfMatrix 38 = .ok (.iload_n 1, 1) := by decide +kernel
theorem dX6_rankOfMatrix_39 : decode cX6_rankOfMatrix 39 = .ok (.invokevirtual 291, 3) := by decide +kernel
theorem dX6_rankOfMatrix_42 : decode cX6_rankOfMatrix 42 = .ok (.aload_n 0, 1) := by decide +kernel
theorem dX6_rankOfMatrix_43 : decode cX6_rankOfMatrix 43 = .ok (.getfield 33, 3) := by decide +kernel
theorem dX6_rankOfMatrix_46 : decode cX6_rankOfMatrix 46 = .ok (.iload_n 1, 1) := by decide +kernel
theorem dX6_rankOfMatrix_47 : decode cX6_rankOfMatrix 47 = .ok (.iload_n 1, 1) := by decide +kernel
theorem dX6_rankOfMatrix_48 : decode cX6_rankOfMatrix 48 = .ok (.invokevirtual 190, 3) := by decide +kernel
theorem dX6_rankOfMatrix_51 : decode cX6_rankOfMatrix 51 = .ok (.ireturn, 1) := by decide +kernel
theorem dX6_solveMatrix_0 : decode cX6_solveMatrix 0 = .ok (.aload_n 0, 1) := by decide +kernel
theorem dX6_solveMatrix_1 : decode cX6_solveMatrix 1 = .ok (.getfield 12, 3) := by decide +kernel
theorem dX6_solveMatrix_4 : decode cX6_solveMatrix 4 = .ok (.getfield 76, 3) := by decide +kernel
theorem dX6_solveMatrix_7 : decode cX6_solveMatrix 7 = .ok (.getfield 106, 3) := by decide +kernel
theorem dX6_solveMatrix_10 : decode cX6_solveMatrix 10 = .ok (.istore_n 1, 1) := by decide +kernel
theorem dX6_solveMatrix_11 : decode cX6_solveMatrix 11 = .ok (.aload_n 0, 1) := by decide +kernel
theorem dX6_solveMatrix_12 : decode cX6_solveMatrix 12 = .ok (.getfield 33, 3) := by decide +kernel
theorem dX6_solveMatrix_15 : decode cX6_solveMatrix 15 = .ok (.aload_n 0, 1) := by decide +kernel
theorem dX6_solveMatrix_16 : decode cX6_solveMatrix 16 = .ok (.getfield 12, 3) := by decide +kernel
theorem dX6_solveMatrix_19 : decode cX6_solveMatrix 19 = .ok (.getfield 76, 3) := by decide +kernel
theorem dX6_solveMatrix_22 : decode cX6_solveMatrix 22 = .ok (.aload_n 0, 1) := by decide +kernel
theorem dX6_solveMatrix_23 : decode cX6_solveMatrix 23 = .ok (.getfield 12, 3) := by decide +kernel
theorem dX6_solveMatrix_26 : decode cX6_solveMatrix 26 = .ok (.getfield 72, 3) := by decide +kernel
theorem dX6_solveMatrix_29 : decode cX6_solveMatrix 29 = .ok (.iload_n 1, 1) := by decide +kernel
theorem dX6_solveMatrix_30 : decode cX6_solveMatrix 30 = .ok (.invokevirtual 182, 3) := by decide +kernel
theorem dX6_solveMatrix_33 : decode cX6_solveMatrix 33 = .ok (.iconst 0, 1) := by decide +kernel
theorem dX6_solveMatrix_34 : decode cX6_solveMatrix 34 = .ok (.istore_n 2, 1) := by decide +kernel
theorem dX6_solveMatrix_35 : decode cX6_solveMatrix 35 = .ok (.iload_n 2, 1) := by decide +kernel
theorem dX6_solveMatrix_36 : decode cX6_solveMatrix 36 = .ok (.iload_n 1, 1) := by decide +kernel
theorem dX6_solveMatrix_37 : decode cX6_solveMatrix 37 = .ok (.if_icmp .ge 32, 3) := by decide +kernel
theorem dX6_solveMatrix_40 : decode cX6_solveMatrix 40 = .ok (.aload_n 0, 1) := by decide +kernel
theorem dX6_solveMatrix_41 : decode cX6_solveMatrix 41 = .ok (.getfield 33, 3) := by decide +kernel
theorem dX6_solveMatrix_44 : decode cX6_solveMatrix 44 = .ok (.getfield 186, 3) := by decide +kernel
theorem dX6_solveMatrix_47 : decode cX6_solveMatrix 47 = .ok (.iload_n 2, 1) := by decide +kernel
theorem dX6_solveMatrix_48 : decode cX6_solveMatrix 48 = .ok (.aaload, 1) := by decide +kernel
theorem dX6_solveMatrix_49 : decode cX6_solveMatrix 49 = .ok (.iload_n 1, 1) := by decide +kernel
theorem dX6_solveMatrix_50 : decode cX6_solveMatrix 50 = .ok (.aload_n 0, 1) := by decide +kernel
theorem dX6_solveMatrix_51 : decode cX6_solveMatrix 51 = .ok (.getfield 12, 3) := by decide +kernel
theorem dX6_solveMatrix_54 : decode cX6_solveMatrix 54 = .ok (.getfield 76, 3) := by decide +kernel
theorem dX6_solveMatrix_57 : decode cX6_solveMatrix 57 = .ok (.getfield 118, 3) := by decide +kernel
theorem dX6_solveMatrix_60 : decode cX6_solveMatrix 60 = .ok (.iload_n 2, 1) := by decide +kernel
theorem dX6_solveMatrix_61 : decode cX6_solveMatrix 61 = .ok (.iaload, 1) := by decide +kernel
theorem dX6_solveMatrix_62 : decode cX6_solveMatrix 62 = .ok (.iastore, 1) := by decide +kernel
theorem dX6_solveMatrix_63 : decode cX6_solveMatrix 63 = .ok (.iinc 2 1, 3) := by decide +kernel
theorem dX6_solveMatrix_66 : decode cX6_solveMatrix 66 = .ok (.goto (-31), 3) := by decide +kernel
theorem dX6_solveMatrix_69 : decode cX6_solveMatrix 69 = .ok (.aload_n 0, 1) := by decide +kernel
theorem dX6_solveMatrix_70 : decode cX6_solveMatrix 70 = .ok (.getfield 33, 3) := by decide +kernel
theorem dX6_solveMatrix_73 : decode cX6_solveMatrix 73 = .ok (.iload_n 1, 1) := by decide +kernel
theorem dX6_solveMatrix_74 : decode cX6_solveMatrix 74 = .ok (.iload_n 1, 1) := by decide +kernel
theorem dX6_solveMatrix_75 : decode cX6_solveMatrix 75 = .ok (.invokevirtual 190, 3) := by decide +kernel
theorem dX6_solveMatrix_78 : decode cX6_solveMatrix 78 = .ok (.istore_n 2, 1) := by decide +kernel
theorem dX6_solveMatrix_79 : decode cX6_solveMatrix 79 = .ok (.iload_n 2, 1) := by decide +kernel
theorem dX6_solveMatrix_80 : decode cX6_solveMatrix 80 = .ok (.ifCond .ge 7, 3) := by decide +kernel
theorem dX6_solveMatrix_83 : decode cX6_solveMatrix 83 = .ok (.lconst 0, 1) := by decide +kernel
theorem dX6_solveMatrix_84 : decode cX6_solveMatrix 84 = .ok (.goto 17, 3) := by decide +kernel
theorem dX6_solveMatrix_87 : decode cX6_solveMatrix 87 = .ok (.aload_n 0, 1) := by decide +kernel
theorem dX6_solveMatrix_88 : decode cX6_solveMatrix 88 = .ok (.getfield 12, 3) := by decide +kernel
theorem dX6_solveMatrix_91 : decode cX6_solveMatrix 91 = .ok (.getfield 72, 3) := by decide +kernel
theorem dX6_solveMatrix_94 : decode cX6_solveMatrix 94 = .ok (.i2l, 1) := by decide +kernel
theorem dX6_solveMatrix_95 : decode cX6_solveMatrix 95 = .ok (.iload_n 1, 1) := by decide +kernel
theorem dX6_solveMatrix_96 : decode cX6_solveMatrix 96 = .ok (.iload_n 2, 1) := by decide +kernel
theorem dX6_solveMatrix_97 : decode cX6_solveMatrix 97 = .ok (.isub, 1) := by decide +kernel
theorem dX6_solveMatrix_98 : decode cX6_solveMatrix 98 = .ok (.invokestatic 225, 3) := by decide +kernel
theorem dX6_solveMatrix_101 : decode cX6_solveMatrix 101 = .ok (.lreturn, 1) := by decide +kernel
theorem dX6_leastMender_0 : decode cX6_leastMender 0 = .ok (.aload_n 0, 1) := by decide +kernel
theorem dX6_leastMender_1 : decode cX6_leastMender 1 = .ok (.getfield 40, 3) := by decide +kernel
theorem dX6_leastMender_4 : decode cX6_leastMender 4 = .ok (.aload_n 0, 1) := by decide +kernel
theorem dX6_leastMender_5 : decode cX6_leastMender 5 = .ok (.getfield 12, 3) := by decide +kernel
theorem dX6_leastMender_8 : decode cX6_leastMender 8 = .ok (.getfield 76, 3) := by decide +kernel
theorem dX6_leastMender_11 : decode cX6_leastMender 11 = .ok (.invokevirtual 102, 3) := by decide +kernel
theorem dX6_leastMender_14 : decode cX6_leastMender 14 = .ok (.iconst 0, 1) := by decide +kernel
theorem dX6_leastMender_15 : decode cX6_leastMender 15 = .ok (.istore_n 2, 1) := by decide +kernel
theorem dX6_leastMender_16 : decode cX6_leastMender 16 = .ok (.iload_n 2, 1) := by decide +kernel
theorem dX6_leastMender_17 : decode cX6_leastMender 17 = .ok (.aload_n 0, 1) := by decide +kernel
theorem dX6_leastMender_18 : decode cX6_leastMender 18 = .ok (.getfield 12, 3) := by decide +kernel
theorem dX6_leastMender_21 : decode cX6_leastMender 21 = .ok (.getfield 72, 3) := by decide +kernel
theorem dX6_leastMender_24 : decode cX6_leastMender 24 = .ok (.if_icmp .ge 39, 3) := by decide +kernel
theorem dX6_leastMender_27 : decode cX6_leastMender 27 = .ok (.aload_n 0, 1) := by decide +kernel
theorem dX6_leastMender_28 : decode cX6_leastMender 28 = .ok (.getfield 40, 3) := by decide +kernel
theorem dX6_leastMender_31 : decode cX6_leastMender 31 = .ok (.getfield 112, 3) := by decide +kernel
theorem dX6_leastMender_34 : decode cX6_leastMender 34 = .ok (.iload_n 1, 1) := by decide +kernel
theorem dX6_leastMender_35 : decode cX6_leastMender 35 = .ok (.iload_n 2, 1) := by decide +kernel
theorem dX6_leastMender_36 : decode cX6_leastMender 36 = .ok (.iastore, 1) := by decide +kernel
theorem dX6_leastMender_37 : decode cX6_leastMender 37 = .ok (.aload_n 0, 1) := by decide +kernel
theorem dX6_leastMender_38 : decode cX6_leastMender 38 = .ok (.aload_n 0, 1) := by decide +kernel
theorem dX6_leastMender_39 : decode cX6_leastMender 39 = .ok (.getfield 40, 3) := by decide +kernel
theorem dX6_leastMender_42 : decode cX6_leastMender 42 = .ok (.aload_n 0, 1) := by decide +kernel
theorem dX6_leastMender_43 : decode cX6_leastMender 43 = .ok (.getfield 40, 3) := by decide +kernel
theorem dX6_leastMender_46 : decode cX6_leastMender 46 = .ok (.getfield 106, 3) := by decide +kernel
theorem dX6_leastMender_49 : decode cX6_leastMender 49 = .ok (.invokevirtual 167, 3) := by decide +kernel
theorem dX6_leastMender_52 : decode cX6_leastMender 52 = .ok (.ifCond .eq 5, 3) := by decide +kernel
theorem dX6_leastMender_55 : decode cX6_leastMender 55 = .ok (.iload_n 2, 1) := by decide +kernel
theorem dX6_leastMender_56 : decode cX6_leastMender 56 = .ok (.ireturn, 1) := by decide +kernel
theorem dX6_leastMender_57 : decode cX6_leastMender 57 = .ok (.iinc 2 1, 3) := by decide +kernel
theorem dX6_leastMender_60 : decode cX6_leastMender 60 = .ok (.goto (-44), 3) := by decide +kernel
theorem dX6_leastMender_63 : decode cX6_leastMender 63 = .ok (.bipush (-4), 2) := by decide +kernel
theorem dX6_leastMender_65 : decode cX6_leastMender 65 = .ok (.ireturn, 1) := by decide +kernel
theorem dX6_findLaw_0 : decode cX6_findLaw 0 = .ok (.aload_n 0, 1) := by decide +kernel
theorem dX6_findLaw_1 : decode cX6_findLaw 1 = .ok (.getfield 12, 3) := by decide +kernel
theorem dX6_findLaw_4 : decode cX6_findLaw 4 = .ok (.getfield 76, 3) := by decide +kernel
theorem dX6_findLaw_7 : decode cX6_findLaw 7 = .ok (.invokevirtual 197, 3) := by decide +kernel
theorem dX6_findLaw_10 : decode cX6_findLaw 10 = .ok (.istore_n 1, 1) := by decide +kernel
theorem dX6_findLaw_11 : decode cX6_findLaw 11 = .ok (.iconst 0, 1) := by decide +kernel
theorem dX6_findLaw_12 : decode cX6_findLaw 12 = .ok (.istore_n 2, 1) := by decide +kernel
theorem dX6_findLaw_13 : decode cX6_findLaw 13 = .ok (.iload_n 2, 1) := by decide +kernel
theorem dX6_findLaw_14 : decode cX6_findLaw 14 = .ok (.iload_n 1, 1) := by decide +kernel
theorem dX6_findLaw_15 : decode cX6_findLaw 15 = .ok (.if_icmp .ge 19, 3) := by decide +kernel
theorem dX6_findLaw_18 : decode cX6_findLaw 18 = .ok (.aload_n 0, 1) := by decide +kernel
theorem dX6_findLaw_19 : decode cX6_findLaw 19 = .ok (.iload_n 2, 1) := by decide +kernel
theorem dX6_findLaw_20 : decode cX6_findLaw 20 = .ok (.invokevirtual 294, 3) := by decide +kernel
theorem dX6_findLaw_23 : decode cX6_findLaw 23 = .ok (.ifCond .eq 5, 3) := by decide +kernel
theorem dX6_findLaw_26 : decode cX6_findLaw 26 = .ok (.iload_n 2, 1) := by decide +kernel
theorem dX6_findLaw_27 : decode cX6_findLaw 27 = .ok (.ireturn, 1) := by decide +kernel
theorem dX6_findLaw_28 : decode cX6_findLaw 28 = .ok (.iinc 2 1, 3) := by decide +kernel
theorem dX6_findLaw_31 : decode cX6_findLaw 31 = .ok (.goto (-18), 3) := by decide +kernel
theorem dX6_findLaw_34 : decode cX6_findLaw 34 = .ok (.iconst 0, 1) := by decide +kernel
theorem dX6_findLaw_35 : decode cX6_findLaw 35 = .ok (.istore_n 2, 1) := by decide +kernel
theorem dX6_findLaw_36 : decode cX6_findLaw 36 = .ok (.iload_n 2, 1) := by decide +kernel
theorem dX6_findLaw_37 : decode cX6_findLaw 37 = .ok (.iload_n 1, 1) := by decide +kernel
theorem dX6_findLaw_38 : decode cX6_findLaw 38 = .ok (.if_icmp .ge 19, 3) := by decide +kernel
theorem dX6_findLaw_41 : decode cX6_findLaw 41 = .ok (.aload_n 0, 1) := by decide +kernel
theorem dX6_findLaw_42 : decode cX6_findLaw 42 = .ok (.getfield 33, 3) := by decide +kernel
theorem dX6_findLaw_45 : decode cX6_findLaw 45 = .ok (.getfield 179, 3) := by decide +kernel
theorem dX6_findLaw_48 : decode cX6_findLaw 48 = .ok (.iload_n 2, 1) := by decide +kernel
theorem dX6_findLaw_49 : decode cX6_findLaw 49 = .ok (.iconst 0, 1) := by decide +kernel
theorem dX6_findLaw_50 : decode cX6_findLaw 50 = .ok (.iastore, 1) := by decide +kernel
theorem dX6_findLaw_51 : decode cX6_findLaw 51 = .ok (.iinc 2 1, 3) := by decide +kernel
theorem dX6_findLaw_54 : decode cX6_findLaw 54 = .ok (.goto (-18), 3) := by decide +kernel
theorem dX6_findLaw_57 : decode cX6_findLaw 57 = .ok (.iload_n 1, 1) := by decide +kernel
theorem dX6_findLaw_58 : decode cX6_findLaw 58 = .ok (.ireturn, 1) := by decide +kernel
theorem dX6_fitsLaw_0 : decode cX6_fitsLaw 0 = .ok (.aload_n 0, 1) := by decide +kernel
theorem dX6_fitsLaw_1 : decode cX6_fitsLaw 1 = .ok (.getfield 12, 3) := by decide +kernel
theorem dX6_fitsLaw_4 : decode cX6_fitsLaw 4 = .ok (.getfield 76, 3) := by decide +kernel
theorem dX6_fitsLaw_7 : decode cX6_fitsLaw 7 = .ok (.getfield 112, 3) := by decide +kernel
theorem dX6_fitsLaw_10 : decode cX6_fitsLaw 10 = .ok (.astore_n 2, 1) := by decide +kernel
theorem dX6_fitsLaw_11 : decode cX6_fitsLaw 11 = .ok (.aload_n 0, 1) := by decide +kernel
theorem dX6_fitsLaw_12 : decode cX6_fitsLaw 12 = .ok (.getfield 12, 3) := by decide +kernel
theorem dX6_fitsLaw_15 : decode cX6_fitsLaw 15 = .ok (.getfield 76, 3) := by decide +kernel
theorem dX6_fitsLaw_18 : decode cX6_fitsLaw 18 = .ok (.invokevirtual 197, 3) := by decide +kernel
theorem dX6_fitsLaw_21 : decode cX6_fitsLaw 21 = .ok (.iload_n 1, 1) := by decide +kernel
theorem dX6_fitsLaw_22 : decode cX6_fitsLaw 22 = .ok (.isub, 1) := by decide +kernel
theorem dX6_fitsLaw_23 : decode cX6_fitsLaw 23 = .ok (.istore_n 3, 1) := by decide +kernel
theorem dX6_fitsLaw_24 : decode cX6_fitsLaw 24 = .ok (.aload_n 0, 1) := by decide +kernel
theorem dX6_fitsLaw_25 : decode cX6_fitsLaw 25 = .ok (.getfield 33, 3) := by decide +kernel
theorem dX6_fitsLaw_28 : decode cX6_fitsLaw 28 = .ok (.aload_n 0, 1) := by decide +kernel
theorem dX6_fitsLaw_29 : decode cX6_fitsLaw 29 = .ok (.getfield 12, 3) := by decide +kernel
theorem dX6_fitsLaw_32 : decode cX6_fitsLaw 32 = .ok (.getfield 72, 3) := by decide +kernel
theorem dX6_fitsLaw_35 : decode cX6_fitsLaw 35 = .ok (.invokevirtual 297, 3) := by decide +kernel
theorem dX6_fitsLaw_38 : decode cX6_fitsLaw 38 = .ok (.iconst 0, 1) := by decide +kernel
theorem dX6_fitsLaw_39 : decode cX6_fitsLaw 39 = .ok (.istore 4, 2) := by decide +kernel
theorem dX6_fitsLaw_41 : decode cX6_fitsLaw 41 = .ok (.iload 4, 2) := by decide +kernel
theorem dX6_fitsLaw_43 : decode cX6_fitsLaw 43 = .ok (.iload_n 3, 1) := by decide +kernel
theorem dX6_fitsLaw_44 : decode cX6_fitsLaw 44 = .ok (.if_icmp .ge 66, 3) := by decide +kernel
theorem dX6_fitsLaw_47 : decode cX6_fitsLaw 47 = .ok (.iconst 0, 1) := by decide +kernel
theorem dX6_fitsLaw_48 : decode cX6_fitsLaw 48 = .ok (.istore 5, 2) := by decide +kernel
theorem dX6_fitsLaw_50 : decode cX6_fitsLaw 50 = .ok (.iload 5, 2) := by decide +kernel
theorem dX6_fitsLaw_52 : decode cX6_fitsLaw 52 = .ok (.iload_n 1, 1) := by decide +kernel
theorem dX6_fitsLaw_53 : decode cX6_fitsLaw 53 = .ok (.if_icmp .ge 33, 3) := by decide +kernel
theorem dX6_fitsLaw_56 : decode cX6_fitsLaw 56 = .ok (.aload_n 0, 1) := by decide +kernel
theorem dX6_fitsLaw_57 : decode cX6_fitsLaw 57 = .ok (.getfield 33, 3) := by decide +kernel
theorem dX6_fitsLaw_60 : decode cX6_fitsLaw 60 = .ok (.getfield 186, 3) := by decide +kernel
theorem dX6_fitsLaw_63 : decode cX6_fitsLaw 63 = .ok (.iload 4, 2) := by decide +kernel
theorem dX6_fitsLaw_65 : decode cX6_fitsLaw 65 = .ok (.aaload, 1) := by decide +kernel
theorem dX6_fitsLaw_66 : decode cX6_fitsLaw 66 = .ok (.iload 5, 2) := by decide +kernel
theorem dX6_fitsLaw_68 : decode cX6_fitsLaw 68 = .ok (.aload_n 2, 1) := by decide +kernel
theorem dX6_fitsLaw_69 : decode cX6_fitsLaw 69 = .ok (.iload 4, 2) := by decide +kernel
theorem dX6_fitsLaw_71 : decode cX6_fitsLaw 71 = .ok (.iload_n 1, 1) := by decide +kernel
theorem dX6_fitsLaw_72 : decode cX6_fitsLaw 72 = .ok (.iadd, 1) := by decide +kernel
theorem dX6_fitsLaw_73 : decode cX6_fitsLaw 73 = .ok (.iconst 1, 1) := by decide +kernel
theorem dX6_fitsLaw_74 : decode cX6_fitsLaw 74 = .ok (.isub, 1) := by decide +kernel
theorem dX6_fitsLaw_75 : decode cX6_fitsLaw 75 = .ok (.iload 5, 2) := by decide +kernel
theorem dX6_fitsLaw_77 : decode cX6_fitsLaw 77 = .ok (.isub, 1) := by decide +kernel
theorem dX6_fitsLaw_78 : decode cX6_fitsLaw 78 = .ok (.iaload, 1) := by decide +kernel
theorem dX6_fitsLaw_79 : decode cX6_fitsLaw 79 = .ok (.iastore, 1) := by decide +kernel
theorem dX6_fitsLaw_80 : decode cX6_fitsLaw 80 = .ok (.iinc 5 1, 3) := by decide +kernel
theorem dX6_fitsLaw_83 : decode cX6_fitsLaw 83 = .ok (.goto (-33), 3) := by decide +kernel
theorem dX6_fitsLaw_86 : decode cX6_fitsLaw 86 = .ok (.aload_n 0, 1) := by decide +kernel
theorem dX6_fitsLaw_87 : decode cX6_fitsLaw 87 = .ok (.getfield 33, 3) := by decide +kernel
theorem dX6_fitsLaw_90 : decode cX6_fitsLaw 90 = .ok (.getfield 186, 3) := by decide +kernel
theorem dX6_fitsLaw_93 : decode cX6_fitsLaw 93 = .ok (.iload 4, 2) := by decide +kernel
theorem dX6_fitsLaw_95 : decode cX6_fitsLaw 95 = .ok (.aaload, 1) := by decide +kernel
theorem dX6_fitsLaw_96 : decode cX6_fitsLaw 96 = .ok (.iload_n 1, 1) := by decide +kernel
theorem dX6_fitsLaw_97 : decode cX6_fitsLaw 97 = .ok (.aload_n 2, 1) := by decide +kernel
theorem dX6_fitsLaw_98 : decode cX6_fitsLaw 98 = .ok (.iload 4, 2) := by decide +kernel
theorem dX6_fitsLaw_100 : decode cX6_fitsLaw 100 = .ok (.iload_n 1, 1) := by decide +kernel
theorem dX6_fitsLaw_101 : decode cX6_fitsLaw 101 = .ok (.iadd, 1) := by decide +kernel
theorem dX6_fitsLaw_102 : decode cX6_fitsLaw 102 = .ok (.iaload, 1) := by decide +kernel
theorem dX6_fitsLaw_103 : decode cX6_fitsLaw 103 = .ok (.iastore, 1) := by decide +kernel
theorem dX6_fitsLaw_104 : decode cX6_fitsLaw 104 = .ok (.iinc 4 1, 3) := by decide +kernel
theorem dX6_fitsLaw_107 : decode cX6_fitsLaw 107 = .ok (.goto (-66), 3) := by decide +kernel
theorem dX6_fitsLaw_110 : decode cX6_fitsLaw 110 = .ok (.aload_n 0, 1) := by decide +kernel
theorem dX6_fitsLaw_111 : decode cX6_fitsLaw 111 = .ok (.getfield 33, 3) := by decide +kernel
theorem dX6_fitsLaw_114 : decode cX6_fitsLaw 114 = .ok (.iload_n 3, 1) := by decide +kernel
theorem dX6_fitsLaw_115 : decode cX6_fitsLaw 115 = .ok (.iload_n 1, 1) := by decide +kernel
theorem dX6_fitsLaw_116 : decode cX6_fitsLaw 116 = .ok (.invokevirtual 190, 3) := by decide +kernel
theorem dX6_fitsLaw_119 : decode cX6_fitsLaw 119 = .ok (.ifCond .lt 7, 3) := by decide +kernel
theorem dX6_fitsLaw_122 : decode cX6_fitsLaw 122 = .ok (.iconst 1, 1) := by decide +kernel
theorem dX6_fitsLaw_123 : decode cX6_fitsLaw 123 = .ok (.goto 4, 3) := by decide +kernel
theorem dX6_fitsLaw_126 : decode cX6_fitsLaw 126 = .ok (.iconst 0, 1) := by decide +kernel
theorem dX6_fitsLaw_127 : decode cX6_fitsLaw 127 = .ok (.ireturn, 1) := by decide +kernel
theorem dX6_countWipes_0 : decode cX6_countWipes 0 = .ok (.aload_n 0, 1) := by decide +kernel
theorem dX6_countWipes_1 : decode cX6_countWipes 1 = .ok (.getfield 40, 3) := by decide +kernel
theorem dX6_countWipes_4 : decode cX6_countWipes 4 = .ok (.aload_n 0, 1) := by decide +kernel
theorem dX6_countWipes_5 : decode cX6_countWipes 5 = .ok (.getfield 12, 3) := by decide +kernel
theorem dX6_countWipes_8 : decode cX6_countWipes 8 = .ok (.getfield 76, 3) := by decide +kernel
theorem dX6_countWipes_11 : decode cX6_countWipes 11 = .ok (.invokevirtual 102, 3) := by decide +kernel
theorem dX6_countWipes_14 : decode cX6_countWipes 14 = .ok (.aload_n 0, 1) := by decide +kernel
theorem dX6_countWipes_15 : decode cX6_countWipes 15 = .ok (.getfield 47, 3) := by decide +kernel
theorem dX6_countWipes_18 : decode cX6_countWipes 18 = .ok (.aload_n 0, 1) := by decide +kernel
theorem dX6_countWipes_19 : decode cX6_countWipes 19 = .ok (.getfield 12, 3) := by decide +kernel
theorem dX6_countWipes_22 : decode cX6_countWipes 22 = .ok (.getfield 76, 3) := by decide +kernel
theorem dX6_countWipes_25 : decode cX6_countWipes 25 = .ok (.aload_n 0, 1) := by decide +kernel
theorem dX6_countWipes_26 : decode cX6_countWipes 26 = .ok (.getfield 12, 3) := by decide +kernel
theorem dX6_countWipes_29 : decode cX6_countWipes 29 = .ok (.getfield 72, 3) := by decide +kernel
theorem dX6_countWipes_32 : decode cX6_countWipes 32 = .ok (.invokevirtual 300, 3) := by decide +kernel
theorem dX6_countWipes_35 : decode cX6_countWipes 35 = .ok (.iconst 0, 1) := by decide +kernel
theorem dX6_countWipes_36 : decode cX6_countWipes 36 = .ok (.istore_n 1, 1) := by decide +kernel
theorem dX6_countWipes_37 : decode cX6_countWipes 37 = .ok (.iload_n 1, 1) := by decide +kernel
theorem dX6_countWipes_38 : decode cX6_countWipes 38 = .ok (.iconst 1, 1) := by decide +kernel
theorem dX6_countWipes_39 : decode cX6_countWipes 39 = .ok (.aload_n 0, 1) := by decide +kernel
theorem dX6_countWipes_40 : decode cX6_countWipes 40 = .ok (.getfield 47, 3) := by decide +kernel
theorem dX6_countWipes_43 : decode cX6_countWipes 43 = .ok (.getfield 222, 3) := by decide +kernel
theorem dX6_countWipes_46 : decode cX6_countWipes 46 = .ok (.ishl, 1) := by decide +kernel
theorem dX6_countWipes_47 : decode cX6_countWipes 47 = .ok (.if_icmp .ge 106, 3) := by decide +kernel
theorem dX6_countWipes_50 : decode cX6_countWipes 50 = .ok (.iconst 0, 1) := by decide +kernel
theorem dX6_countWipes_51 : decode cX6_countWipes 51 = .ok (.istore_n 2, 1) := by decide +kernel
theorem dX6_countWipes_52 : decode cX6_countWipes 52 = .ok (.iload_n 2, 1) := by decide +kernel
theorem dX6_countWipes_53 : decode cX6_countWipes 53 = .ok (.aload_n 0, 1) := by decide +kernel
theorem dX6_countWipes_54 : decode cX6_countWipes 54 = .ok (.getfield 47, 3) := by decide +kernel
theorem dX6_countWipes_57 : decode cX6_countWipes 57 = .ok (.getfield 222, 3) := by decide +kernel
theorem dX6_countWipes_60 : decode cX6_countWipes 60 = .ok (.if_icmp .ge 53, 3) := by decide +kernel
theorem dX6_countWipes_63 : decode cX6_countWipes 63 = .ok (.aload_n 0, 1) := by decide +kernel
theorem dX6_countWipes_64 : decode cX6_countWipes 64 = .ok (.getfield 47, 3) := by decide +kernel
theorem dX6_countWipes_67 : decode cX6_countWipes 67 = .ok (.getfield 303, 3) := by decide +kernel
theorem dX6_countWipes_70 : decode cX6_countWipes 70 = .ok (.iload_n 2, 1) := by decide +kernel
theorem dX6_countWipes_71 : decode cX6_countWipes 71 = .ok (.iaload, 1) := by decide +kernel
theorem dX6_countWipes_72 : decode cX6_countWipes 72 = .ok (.istore_n 3, 1) := by decide +kernel
theorem dX6_countWipes_73 : decode cX6_countWipes 73 = .ok (.aload_n 0, 1) := by decide +kernel
theorem dX6_countWipes_74 : decode cX6_countWipes 74 = .ok (.getfield 40, 3) := by decide +kernel
theorem dX6_countWipes_77 : decode cX6_countWipes 77 = .ok (.getfield 112, 3) := by decide +kernel
theorem dX6_countWipes_80 : decode cX6_countWipes 80 = .ok (.iload_n 3, 1) := by decide +kernel
theorem dX6_countWipes_81 : decode cX6_countWipes 81 = .ok (.iload_n 1, 1) := by decide +kernel
theorem dX6_countWipes_82 : decode cX6_countWipes 82 = .ok (.iload_n 2, 1) := by decide +kernel
theorem dX6_countWipes_83 : decode cX6_countWipes 83 = .ok (.ishr, 1) := by decide +kernel
theorem dX6_countWipes_84 : decode cX6_countWipes 84 = .ok (.iconst 1, 1) := by decide +kernel
theorem dX6_countWipes_85 : decode cX6_countWipes 85 = .ok (.iand, 1) := by decide +kernel
theorem dX6_countWipes_86 : decode cX6_countWipes 86 = .ok (.iconst 1, 1) := by decide +kernel
theorem dX6_countWipes_87 : decode cX6_countWipes 87 = .ok (.if_icmp .ne 7, 3) := by decide +kernel
theorem dX6_countWipes_90 : decode cX6_countWipes 90 = .ok (.iconst 0, 1) := by decide +kernel
theorem dX6_countWipes_91 : decode cX6_countWipes 91 = .ok (.goto 15, 3) := by decide +kernel
theorem dX6_countWipes_94 : decode cX6_countWipes 94 = .ok (.aload_n 0, 1) := by decide +kernel
theorem dX6_countWipes_95 : decode cX6_countWipes 95 = .ok (.getfield 12, 3) := by decide +kernel
theorem dX6_countWipes_98 : decode cX6_countWipes 98 = .ok (.getfield 76, 3) := by decide +kernel
theorem dX6_countWipes_101 : decode cX6_countWipes 101 = .ok (.getfield 112, 3) := by decide +kernel
theorem dX6_countWipes_104 : decode cX6_countWipes 104 = .ok (.iload_n 3, 1) := by decide +kernel
theorem dX6_countWipes_105 : decode cX6_countWipes 105 = .ok (.iaload, 1) := by decide +kernel
theorem dX6_countWipes_106 : decode cX6_countWipes 106 = .ok (.iastore, 1) := by decide +kernel
theorem dX6_countWipes_107 : decode cX6_countWipes 107 = .ok (.iinc 2 1, 3) := by decide +kernel
theorem dX6_countWipes_110 : decode cX6_countWipes 110 = .ok (.goto (-58), 3) := by decide +kernel
theorem dX6_countWipes_113 : decode cX6_countWipes 113 = .ok (.aload_n 0, 1) := by decide +kernel
theorem dX6_countWipes_114 : decode cX6_countWipes 114 = .ok (.aload_n 0, 1) := by decide +kernel
theorem dX6_countWipes_115 : decode cX6_countWipes 115 = .ok (.getfield 40, 3) := by decide +kernel
theorem dX6_countWipes_118 : decode cX6_countWipes 118 = .ok (.aload_n 0, 1) := by decide +kernel
theorem dX6_countWipes_119 : decode cX6_countWipes 119 = .ok (.getfield 40, 3) := by decide +kernel
theorem dX6_countWipes_122 : decode cX6_countWipes 122 = .ok (.getfield 106, 3) := by decide +kernel
theorem dX6_countWipes_125 : decode cX6_countWipes 125 = .ok (.invokevirtual 167, 3) := by decide +kernel
theorem dX6_countWipes_128 : decode cX6_countWipes 128 = .ok (.ifCond .ne 19, 3) := by decide +kernel
theorem dX6_countWipes_131 : decode cX6_countWipes 131 = .ok (.aload_n 0, 1) := by decide +kernel
theorem dX6_countWipes_132 : decode cX6_countWipes 132 = .ok (.getfield 47, 3) := by decide +kernel
theorem dX6_countWipes_135 : decode cX6_countWipes 135 = .ok (.getfield 306, 3) := by decide +kernel
theorem dX6_countWipes_138 : decode cX6_countWipes 138 = .ok (.iload_n 1, 1) := by decide +kernel
theorem dX6_countWipes_139 : decode cX6_countWipes 139 = .ok (.invokestatic 309, 3) := by decide +kernel
theorem dX6_countWipes_142 : decode cX6_countWipes 142 = .ok (.dup2, 1) := by decide +kernel
theorem dX6_countWipes_143 : decode cX6_countWipes 143 = .ok (.laload, 1) := by decide +kernel
theorem dX6_countWipes_144 : decode cX6_countWipes 144 = .ok (.lconst 1, 1) := by decide +kernel
theorem dX6_countWipes_145 : decode cX6_countWipes 145 = .ok (.ladd, 1) := by decide +kernel
theorem dX6_countWipes_146 : decode cX6_countWipes 146 = .ok (.lastore, 1) := by decide +kernel
theorem dX6_countWipes_147 : decode cX6_countWipes 147 = .ok (.iinc 1 1, 3) := by decide +kernel
theorem dX6_countWipes_150 : decode cX6_countWipes 150 = .ok (.goto (-113), 3) := by decide +kernel
theorem dX6_countWipes_153 : decode cX6_countWipes 153 = .ok (.return_, 1) := by decide +kernel
theorem dX6_power_0 : decode cX6_power 0 = .ok (.lconst 1, 1) := by decide +kernel
theorem dX6_power_1 : decode cX6_power 1 = .ok (.lstore_n 3, 1) := by decide +kernel
theorem dX6_power_2 : decode cX6_power 2 = .ok (.iconst 0, 1) := by decide +kernel
theorem dX6_power_3 : decode cX6_power 3 = .ok (.istore 5, 2) := by decide +kernel
theorem dX6_power_5 : decode cX6_power 5 = .ok (.iload 5, 2) := by decide +kernel
theorem dX6_power_7 : decode cX6_power 7 = .ok (.iload_n 2, 1) := by decide +kernel
theorem dX6_power_8 : decode cX6_power 8 = .ok (.if_icmp .ge 13, 3) := by decide +kernel
theorem dX6_power_11 : decode cX6_power 11 = .ok (.lload_n 3, 1) := by decide +kernel
theorem dX6_power_12 : decode cX6_power 12 = .ok (.lload_n 0, 1) := by decide +kernel
theorem dX6_power_13 : decode cX6_power 13 = .ok (.lmul, 1) := by decide +kernel
theorem dX6_power_14 : decode cX6_power 14 = .ok (.lstore_n 3, 1) := by decide +kernel
theorem dX6_power_15 : decode cX6_power 15 = .ok (.iinc 5 1, 3) := by decide +kernel
theorem dX6_power_18 : decode cX6_power 18 = .ok (.goto (-13), 3) := by decide +kernel
theorem dX6_power_21 : decode cX6_power 21 = .ok (.lload_n 3, 1) := by decide +kernel
theorem dX6_power_22 : decode cX6_power 22 = .ok (.lreturn, 1) := by decide +kernel
theorem dX6_greatestShared_0 : decode cX6_greatestShared 0 = .ok (.lload_n 2, 1) := by decide +kernel
theorem dX6_greatestShared_1 : decode cX6_greatestShared 1 = .ok (.lstore 4, 2) := by decide +kernel
theorem dX6_greatestShared_3 : decode cX6_greatestShared 3 = .ok (.lload_n 0, 1) := by decide +kernel
theorem dX6_greatestShared_4 : decode cX6_greatestShared 4 = .ok (.lstore 6, 2) := by decide +kernel
theorem dX6_greatestShared_6 : decode cX6_greatestShared 6 = .ok (.iconst 0, 1) := by decide +kernel
theorem dX6_greatestShared_7 : decode cX6_greatestShared 7 = .ok (.istore 8, 2) := by decide +kernel
theorem dX6_greatestShared_9 : decode cX6_greatestShared 9 = .ok (.iload 8, 2) := by decide +kernel
theorem dX6_greatestShared_11 : decode cX6_greatestShared 11 = .ok (.bipush 100, 2) := by decide +kernel
theorem dX6_greatestShared_13 : decode cX6_greatestShared 13 = .ok (.if_icmp .ge 31, 3) := by decide +kernel
theorem dX6_greatestShared_16 : decode cX6_greatestShared 16 = .ok (.lload 6, 2) := by decide +kernel
theorem dX6_greatestShared_18 : decode cX6_greatestShared 18 = .ok (.lconst 0, 1) := by decide +kernel
theorem dX6_greatestShared_19 : decode cX6_greatestShared 19 = .ok (.lcmp, 1) := by decide +kernel
theorem dX6_greatestShared_20 : decode cX6_greatestShared 20 = .ok (.ifCond .eq 24, 3) := by decide +kernel
theorem dX6_greatestShared_23 : decode cX6_greatestShared 23 = .ok (.lload 4, 2) := by decide +kernel
theorem dX6_greatestShared_25 : decode cX6_greatestShared 25 = .ok (.lload 6, 2) := by decide +kernel
theorem dX6_greatestShared_27 : decode cX6_greatestShared 27 = .ok (.lrem, 1) := by decide +kernel
theorem dX6_greatestShared_28 : decode cX6_greatestShared 28 = .ok (.lstore 9, 2) := by decide +kernel
theorem dX6_greatestShared_30 : decode cX6_greatestShared 30 = .ok (.lload 6, 2) := by decide +kernel
theorem dX6_greatestShared_32 : decode cX6_greatestShared 32 = .ok (.lstore 4, 2) := by decide +kernel
theorem dX6_greatestShared_34 : decode cX6_greatestShared 34 = .ok (.lload 9, 2) := by decide +kernel
theorem dX6_greatestShared_36 : decode cX6_greatestShared 36 = .ok (.lstore 6, 2) := by decide +kernel
theorem dX6_greatestShared_38 : decode cX6_greatestShared 38 = .ok (.iinc 8 1, 3) := by decide +kernel
theorem dX6_greatestShared_41 : decode cX6_greatestShared 41 = .ok (.goto (-32), 3) := by decide +kernel
theorem dX6_greatestShared_44 : decode cX6_greatestShared 44 = .ok (.lload 4, 2) := by decide +kernel
theorem dX6_greatestShared_46 : decode cX6_greatestShared 46 = .ok (.lreturn, 1) := by decide +kernel
theorem dX6_readNumbers_0 : decode cX6_readNumbers 0 = .ok (.iconst 0, 1) := by decide +kernel
theorem dX6_readNumbers_1 : decode cX6_readNumbers 1 = .ok (.istore 4, 2) := by decide +kernel
theorem dX6_readNumbers_3 : decode cX6_readNumbers 3 = .ok (.iload 4, 2) := by decide +kernel
theorem dX6_readNumbers_5 : decode cX6_readNumbers 5 = .ok (.aload_n 0, 1) := by decide +kernel
theorem dX6_readNumbers_6 : decode cX6_readNumbers 6 = .ok (.getfield 12, 3) := by decide +kernel
theorem dX6_readNumbers_9 : decode cX6_readNumbers 9 = .ok (.getfield 76, 3) := by decide +kernel
theorem dX6_readNumbers_12 : decode cX6_readNumbers 12 = .ok (.getfield 106, 3) := by decide +kernel
theorem dX6_readNumbers_15 : decode cX6_readNumbers 15 = .ok (.if_icmp .ge 41, 3) := by decide +kernel
theorem dX6_readNumbers_18 : decode cX6_readNumbers 18 = .ok (.aload_n 0, 1) := by decide +kernel
theorem dX6_readNumbers_19 : decode cX6_readNumbers 19 = .ok (.aload_n 1, 1) := by decide +kernel
theorem dX6_readNumbers_20 : decode cX6_readNumbers 20 = .ok (.getfield 246, 3) := by decide +kernel
theorem dX6_readNumbers_23 : decode cX6_readNumbers 23 = .ok (.iload_n 2, 1) := by decide +kernel
theorem dX6_readNumbers_24 : decode cX6_readNumbers 24 = .ok (.iload 4, 2) := by decide +kernel
theorem dX6_readNumbers_26 : decode cX6_readNumbers 26 = .ok (.iadd, 1) := by decide +kernel
theorem dX6_readNumbers_27 : decode cX6_readNumbers 27 = .ok (.laload, 1) := by decide +kernel
theorem dX6_readNumbers_28 : decode cX6_readNumbers 28 = .ok (.invokevirtual 144, 3) := by decide +kernel
theorem dX6_readNumbers_31 : decode cX6_readNumbers 31 = .ok (.ifCond .ne 5, 3) := by decide +kernel
theorem dX6_readNumbers_34 : decode cX6_readNumbers 34 = .ok (.iconst 0, 1) := by decide +kernel
theorem dX6_readNumbers_35 : decode cX6_readNumbers 35 = .ok (.ireturn, 1) := by decide +kernel
theorem dX6_readNumbers_36 : decode cX6_readNumbers 36 = .ok (.aload_n 3, 1) := by decide +kernel
theorem dX6_readNumbers_37 : decode cX6_readNumbers 37 = .ok (.iload 4, 2) := by decide +kernel
theorem dX6_readNumbers_39 : decode cX6_readNumbers 39 = .ok (.aload_n 1, 1) := by decide +kernel
theorem dX6_readNumbers_40 : decode cX6_readNumbers 40 = .ok (.getfield 246, 3) := by decide +kernel
theorem dX6_readNumbers_43 : decode cX6_readNumbers 43 = .ok (.iload_n 2, 1) := by decide +kernel
theorem dX6_readNumbers_44 : decode cX6_readNumbers 44 = .ok (.iload 4, 2) := by decide +kernel
theorem dX6_readNumbers_46 : decode cX6_readNumbers 46 = .ok (.iadd, 1) := by decide +kernel
theorem dX6_readNumbers_47 : decode cX6_readNumbers 47 = .ok (.laload, 1) := by decide +kernel
theorem dX6_readNumbers_48 : decode cX6_readNumbers 48 = .ok (.l2i, 1) := by decide +kernel
theorem dX6_readNumbers_49 : decode cX6_readNumbers 49 = .ok (.iastore, 1) := by decide +kernel
theorem dX6_readNumbers_50 : decode cX6_readNumbers 50 = .ok (.iinc 4 1, 3) := by decide +kernel
theorem dX6_readNumbers_53 : decode cX6_readNumbers 53 = .ok (.goto (-50), 3) := by decide +kernel
theorem dX6_readNumbers_56 : decode cX6_readNumbers 56 = .ok (.iconst 1, 1) := by decide +kernel
theorem dX6_readNumbers_57 : decode cX6_readNumbers 57 = .ok (.ireturn, 1) := by decide +kernel
theorem dX6_rowTimesGiven_0 : decode cX6_rowTimesGiven 0 = .ok (.iconst 0, 1) := by decide +kernel
theorem dX6_rowTimesGiven_1 : decode cX6_rowTimesGiven 1 = .ok (.istore_n 3, 1) := by decide +kernel
theorem dX6_rowTimesGiven_2 : decode cX6_rowTimesGiven 2 = .ok (.iconst 0, 1) := by decide +kernel
theorem dX6_rowTimesGiven_3 : decode cX6_rowTimesGiven 3 = .ok (.istore 4, 2) := by decide +kernel
theorem dX6_rowTimesGiven_5 : decode cX6_rowTimesGiven 5 = .ok (.iload 4, 2) := by decide +kernel
theorem dX6_rowTimesGiven_7 : decode cX6_rowTimesGiven 7 = .ok (.aload_n 0, 1) := by decide +kernel
theorem dX6_rowTimesGiven_8 : decode cX6_rowTimesGiven 8 = .ok (.getfield 12, 3) := by decide +kernel
theorem dX6_rowTimesGiven_11 : decode cX6_rowTimesGiven 11 = .ok (.getfield 76, 3) := by decide +kernel
theorem dX6_rowTimesGiven_14 : decode cX6_rowTimesGiven 14 = .ok (.getfield 106, 3) := by decide +kernel
theorem dX6_rowTimesGiven_17 : decode cX6_rowTimesGiven 17 = .ok (.if_icmp .ge 41, 3) := by decide +kernel
theorem dX6_rowTimesGiven_20 : decode cX6_rowTimesGiven 20 = .ok (.iload_n 3, 1) := by decide +kernel
theorem dX6_rowTimesGiven_21 : decode cX6_rowTimesGiven 21 = .ok (.aload_n 0, 1) := by decide +kernel
theorem dX6_rowTimesGiven_22 : decode cX6_rowTimesGiven 22 = .ok (.getfield 12, 3) := by decide +kernel
theorem dX6_rowTimesGiven_25 : decode cX6_rowTimesGiven 25 = .ok (.getfield 76, 3) := by decide +kernel
theorem dX6_rowTimesGiven_28 : decode cX6_rowTimesGiven 28 = .ok (.iload_n 1, 1) := by decide +kernel
theorem dX6_rowTimesGiven_29 : decode cX6_rowTimesGiven 29 = .ok (.iload_n 2, 1) := by decide +kernel
theorem dX6_rowTimesGiven_30 : decode cX6_rowTimesGiven 30 = .ok (.iload 4, 2) := by decide +kernel
theorem dX6_rowTimesGiven_32 : decode cX6_rowTimesGiven 32 = .ok (.aload_n 0, 1) := by decide +kernel
theorem dX6_rowTimesGiven_33 : decode cX6_rowTimesGiven 33 = .ok (.getfield 12, 3) := by decide +kernel
theorem dX6_rowTimesGiven_36 : decode cX6_rowTimesGiven 36 = .ok (.getfield 72, 3) := by decide +kernel
theorem dX6_rowTimesGiven_39 : decode cX6_rowTimesGiven 39 = .ok (.invokevirtual 124, 3) := by decide +kernel
theorem dX6_rowTimesGiven_42 : decode cX6_rowTimesGiven 42 = .ok (.aload_n 0, 1) := by decide +kernel
theorem dX6_rowTimesGiven_43 : decode cX6_rowTimesGiven 43 = .ok (.getfield 55, 3) := by decide +kernel
theorem dX6_rowTimesGiven_46 : decode cX6_rowTimesGiven 46 = .ok (.iload 4, 2) := by decide +kernel
theorem dX6_rowTimesGiven_48 : decode cX6_rowTimesGiven 48 = .ok (.iaload, 1) := by decide +kernel
theorem dX6_rowTimesGiven_49 : decode cX6_rowTimesGiven 49 = .ok (.imul, 1) := by decide +kernel
theorem dX6_rowTimesGiven_50 : decode cX6_rowTimesGiven 50 = .ok (.iadd, 1) := by decide +kernel
theorem dX6_rowTimesGiven_51 : decode cX6_rowTimesGiven 51 = .ok (.istore_n 3, 1) := by decide +kernel
theorem dX6_rowTimesGiven_52 : decode cX6_rowTimesGiven 52 = .ok (.iinc 4 1, 3) := by decide +kernel
theorem dX6_rowTimesGiven_55 : decode cX6_rowTimesGiven 55 = .ok (.goto (-50), 3) := by decide +kernel
theorem dX6_rowTimesGiven_58 : decode cX6_rowTimesGiven 58 = .ok (.iload_n 3, 1) := by decide +kernel
theorem dX6_rowTimesGiven_59 : decode cX6_rowTimesGiven 59 = .ok (.aload_n 0, 1) := by decide +kernel
theorem dX6_rowTimesGiven_60 : decode cX6_rowTimesGiven 60 = .ok (.getfield 12, 3) := by decide +kernel
theorem dX6_rowTimesGiven_63 : decode cX6_rowTimesGiven 63 = .ok (.getfield 72, 3) := by decide +kernel
theorem dX6_rowTimesGiven_66 : decode cX6_rowTimesGiven 66 = .ok (.irem, 1) := by decide +kernel
theorem dX6_rowTimesGiven_67 : decode cX6_rowTimesGiven 67 = .ok (.ireturn, 1) := by decide +kernel
theorem dX6_comesBy_0 : decode cX6_comesBy 0 = .ok (.iconst 0, 1) := by decide +kernel
theorem dX6_comesBy_1 : decode cX6_comesBy 1 = .ok (.istore_n 2, 1) := by decide +kernel
theorem dX6_comesBy_2 : decode cX6_comesBy 2 = .ok (.iload_n 2, 1) := by decide +kernel
theorem dX6_comesBy_3 : decode cX6_comesBy 3 = .ok (.aload_n 0, 1) := by decide +kernel
theorem dX6_comesBy_4 : decode cX6_comesBy 4 = .ok (.getfield 12, 3) := by decide +kernel
theorem dX6_comesBy_7 : decode cX6_comesBy 7 = .ok (.getfield 76, 3) := by decide +kernel
theorem dX6_comesBy_10 : decode cX6_comesBy 10 = .ok (.getfield 106, 3) := by decide +kernel
theorem dX6_comesBy_13 : decode cX6_comesBy 13 = .ok (.if_icmp .ge 26, 3) := by decide +kernel
theorem dX6_comesBy_16 : decode cX6_comesBy 16 = .ok (.aload_n 0, 1) := by decide +kernel
theorem dX6_comesBy_17 : decode cX6_comesBy 17 = .ok (.iload_n 1, 1) := by decide +kernel
theorem dX6_comesBy_18 : decode cX6_comesBy 18 = .ok (.iload_n 2, 1) := by decide +kernel
theorem dX6_comesBy_19 : decode cX6_comesBy 19 = .ok (.invokevirtual 250, 3) := by decide +kernel
theorem dX6_comesBy_22 : decode cX6_comesBy 22 = .ok (.aload_n 0, 1) := by decide +kernel
theorem dX6_comesBy_23 : decode cX6_comesBy 23 = .ok (.getfield 58, 3) := by decide +kernel
theorem dX6_comesBy_26 : decode cX6_comesBy 26 = .ok (.iload_n 2, 1) := by decide +kernel
theorem dX6_comesBy_27 : decode cX6_comesBy 27 = .ok (.iaload, 1) := by decide +kernel
theorem dX6_comesBy_28 : decode cX6_comesBy 28 = .ok (.if_icmp .eq 5, 3) := by decide +kernel
theorem dX6_comesBy_31 : decode cX6_comesBy 31 = .ok (.iconst 0, 1) := by decide +kernel
theorem dX6_comesBy_32 : decode cX6_comesBy 32 = .ok (.ireturn, 1) := by decide +kernel
theorem dX6_comesBy_33 : decode cX6_comesBy 33 = .ok (.iinc 2 1, 3) := by decide +kernel
theorem dX6_comesBy_36 : decode cX6_comesBy 36 = .ok (.goto (-34), 3) := by decide +kernel
theorem dX6_comesBy_39 : decode cX6_comesBy 39 = .ok (.iconst 1, 1) := by decide +kernel
theorem dX6_comesBy_40 : decode cX6_comesBy 40 = .ok (.ireturn, 1) := by decide +kernel
theorem dX6_lowestBits_0 : decode cX6_lowestBits 0 = .ok (.iload_n 0, 1) := by decide +kernel
theorem dX6_lowestBits_1 : decode cX6_lowestBits 1 = .ok (.tableswitch 41 0 2 #[27, 32, 37], 27) := by decide +kernel
theorem dX6_lowestBits_28 : decode cX6_lowestBits 28 = .ok (.lload_n 1, 1) := by decide +kernel
theorem dX6_lowestBits_29 : decode cX6_lowestBits 29 = .ok (.l2i, 1) := by decide +kernel
theorem dX6_lowestBits_30 : decode cX6_lowestBits 30 = .ok (.i2b, 1) := by decide +kernel
theorem dX6_lowestBits_31 : decode cX6_lowestBits 31 = .ok (.i2l, 1) := by decide +kernel
theorem dX6_lowestBits_32 : decode cX6_lowestBits 32 = .ok (.lreturn, 1) := by decide +kernel
theorem dX6_lowestBits_33 : decode cX6_lowestBits 33 = .ok (.lload_n 1, 1) := by decide +kernel
theorem dX6_lowestBits_34 : decode cX6_lowestBits 34 = .ok (.l2i, 1) := by decide +kernel
theorem dX6_lowestBits_35 : decode cX6_lowestBits 35 = .ok (.i2s, 1) := by decide +kernel
theorem dX6_lowestBits_36 : decode cX6_lowestBits 36 = .ok (.i2l, 1) := by decide +kernel
theorem dX6_lowestBits_37 : decode cX6_lowestBits 37 = .ok (.lreturn, 1) := by decide +kernel
theorem dX6_lowestBits_38 : decode cX6_lowestBits 38 = .ok (.lload_n 1, 1) := by decide +kernel
theorem dX6_lowestBits_39 : decode cX6_lowestBits 39 = .ok (.l2i, 1) := by decide +kernel
theorem dX6_lowestBits_40 : decode cX6_lowestBits 40 = .ok (.i2l, 1) := by decide +kernel
theorem dX6_lowestBits_41 : decode cX6_lowestBits 41 = .ok (.lreturn, 1) := by decide +kernel
theorem dX6_lowestBits_42 : decode cX6_lowestBits 42 = .ok (.lload_n 1, 1) := by decide +kernel
theorem dX6_lowestBits_43 : decode cX6_lowestBits 43 = .ok (.lreturn, 1) := by decide +kernel
