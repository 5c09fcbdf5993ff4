theorem dX0_init_0 : decode cX0_init 0 = .ok (.aload_n 0, 1) := by decide +kernel
theorem dX0_init_1 : decode cX0_init 1 = .ok (.invokespecial 3, 3) := by decide +kernel
theorem dX0_init_4 : decode cX0_init 4 = .ok (.aload_n 0, 1) := by decide +kernel
theorem dX0_init_5 : decode cX0_init 5 = .ok (.bipush 7, 2) := by decide +kernel
theorem dX0_init_7 : decode cX0_init 7 = .ok (.putfield 9, 3) := by decide +kernel
theorem dX0_init_10 : decode cX0_init 10 = .ok (.aload_n 0, 1) := by decide +kernel
theorem dX0_init_11 : decode cX0_init 11 = .ok (.iconst 0, 1) := by decide +kernel
theorem dX0_init_12 : decode cX0_init 12 = .ok (.putfield 15, 3) := by decide +kernel
theorem dX0_init_15 : decode cX0_init 15 = .ok (.aload_n 0, 1) := by decide +kernel
theorem dX0_init_16 : decode cX0_init 16 = .ok (.new 18, 3) := by decide +kernel
theorem dX0_init_19 : decode cX0_init 19 = .ok (.dup, 1) := by decide +kernel
theorem dX0_init_20 : decode cX0_init 20 = .ok (.invokespecial 20, 3) := by decide +kernel
theorem dX0_init_23 : decode cX0_init 23 = .ok (.putfield 21, 3) := by decide +kernel
theorem dX0_init_26 : decode cX0_init 26 = .ok (.aload_n 0, 1) := by decide +kernel
theorem dX0_init_27 : decode cX0_init 27 = .ok (.iconst 0, 1) := by decide +kernel
theorem dX0_init_28 : decode cX0_init 28 = .ok (.putfield 25, 3) := by decide +kernel
theorem dX0_init_31 : decode cX0_init 31 = .ok (.aload_n 0, 1) := by decide +kernel
theorem dX0_init_32 : decode cX0_init 32 = .ok (.bipush 8, 2) := by decide +kernel
theorem dX0_init_34 : decode cX0_init 34 = .ok (.anewarray 18, 3) := by decide +kernel
theorem dX0_init_37 : decode cX0_init 37 = .ok (.putfield 28, 3) := by decide +kernel
theorem dX0_init_40 : decode cX0_init 40 = .ok (.iconst 0, 1) := by decide +kernel
theorem dX0_init_41 : decode cX0_init 41 = .ok (.istore_n 1, 1) := by decide +kernel
theorem dX0_init_42 : decode cX0_init 42 = .ok (.iload_n 1, 1) := by decide +kernel
theorem dX0_init_43 : decode cX0_init 43 = .ok (.bipush 8, 2) := by decide +kernel
theorem dX0_init_45 : decode cX0_init 45 = .ok (.if_icmp .ge 22, 3) := by decide +kernel
theorem dX0_init_48 : decode cX0_init 48 = .ok (.aload_n 0, 1) := by decide +kernel
theorem dX0_init_49 : decode cX0_init 49 = .ok (.getfield 28, 3) := by decide +kernel
theorem dX0_init_52 : decode cX0_init 52 = .ok (.iload_n 1, 1) := by decide +kernel
theorem dX0_init_53 : decode cX0_init 53 = .ok (.new 18, 3) := by decide +kernel
theorem dX0_init_56 : decode cX0_init 56 = .ok (.dup, 1) := by decide +kernel
theorem dX0_init_57 : decode cX0_init 57 = .ok (.invokespecial 20, 3) := by decide +kernel
theorem dX0_init_60 : decode cX0_init 60 = .ok (.aastore, 1) := by decide +kernel
theorem dX0_init_61 : decode cX0_init 61 = .ok (.iinc 1 1, 3) := by decide +kernel
theorem dX0_init_64 : decode cX0_init 64 = .ok (.goto (-22), 3) := by decide +kernel
theorem dX0_init_67 : decode cX0_init 67 = .ok (.return_, 1) := by decide +kernel
theorem dX0_remember_0 : decode cX0_remember 0 = .ok (.aload_n 0, 1) := by decide +kernel
theorem dX0_remember_1 : decode cX0_remember 1 = .ok (.getfield 28, 3) := by decide +kernel
theorem dX0_remember_4 : decode cX0_remember 4 = .ok (.aload_n 0, 1) := by decide +kernel
theorem dX0_remember_5 : decode cX0_remember 5 = .ok (.getfield 25, 3) := by decide +kernel
theorem dX0_remember_8 : decode cX0_remember 8 = .ok (.aload_n 0, 1) := by decide +kernel
theorem dX0_remember_9 : decode cX0_remember 9 = .ok (.getfield 15, 3) := by decide +kernel
theorem dX0_remember_12 : decode cX0_remember 12 = .ok (.iadd, 1) := by decide +kernel
theorem dX0_remember_13 : decode cX0_remember 13 = .ok (.bipush 8, 2) := by decide +kernel
theorem dX0_remember_15 : decode cX0_remember 15 = .ok (.irem, 1) := by decide +kernel
theorem dX0_remember_16 : decode cX0_remember 16 = .ok (.aaload, 1) := by decide +kernel
theorem dX0_remember_17 : decode cX0_remember 17 = .ok (.aload_n 0, 1) := by decide +kernel
theorem dX0_remember_18 : decode cX0_remember 18 = .ok (.getfield 21, 3) := by decide +kernel
theorem dX0_remember_21 : decode cX0_remember 21 = .ok (.invokevirtual 32, 3) := by decide +kernel
theorem dX0_remember_24 : decode cX0_remember 24 = .ok (.aload_n 0, 1) := by decide +kernel
theorem dX0_remember_25 : decode cX0_remember 25 = .ok (.getfield 15, 3) := by decide +kernel
theorem dX0_remember_28 : decode cX0_remember 28 = .ok (.bipush 8, 2) := by decide +kernel
theorem dX0_remember_30 : decode cX0_remember 30 = .ok (.if_icmp .ge 16, 3) := by decide +kernel
theorem dX0_remember_33 : decode cX0_remember 33 = .ok (.aload_n 0, 1) := by decide +kernel
theorem dX0_remember_34 : decode cX0_remember 34 = .ok (.dup, 1) := by decide +kernel
theorem dX0_remember_35 : decode cX0_remember 35 = .ok (.getfield 15, 3) := by decide +kernel
theorem dX0_remember_38 : decode cX0_remember 38 = .ok (.iconst 1, 1) := by decide +kernel
theorem dX0_remember_39 : decode cX0_remember 39 = .ok (.iadd, 1) := by decide +kernel
theorem dX0_remember_40 : decode cX0_remember 40 = .ok (.putfield 15, 3) := by decide +kernel
theorem dX0_remember_43 : decode cX0_remember 43 = .ok (.goto 16, 3) := by decide +kernel
theorem dX0_remember_46 : decode cX0_remember 46 = .ok (.aload_n 0, 1) := by decide +kernel
theorem dX0_remember_47 : decode cX0_remember 47 = .ok (.aload_n 0, 1) := by decide +kernel
theorem dX0_remember_48 : decode cX0_remember 48 = .ok (.getfield 25, 3) := by decide +kernel
theorem dX0_remember_51 : decode cX0_remember 51 = .ok (.iconst 1, 1) := by decide +kernel
theorem dX0_remember_52 : decode cX0_remember 52 = .ok (.iadd, 1) := by decide +kernel
theorem dX0_remember_53 : decode cX0_remember 53 = .ok (.bipush 8, 2) := by decide +kernel
theorem dX0_remember_55 : decode cX0_remember 55 = .ok (.irem, 1) := by decide +kernel
theorem dX0_remember_56 : decode cX0_remember 56 = .ok (.putfield 25, 3) := by decide +kernel
theorem dX0_remember_59 : decode cX0_remember 59 = .ok (.return_, 1) := by decide +kernel
theorem dX0_stepBack_0 : decode cX0_stepBack 0 = .ok (.aload_n 0, 1) := by decide +kernel
theorem dX0_stepBack_1 : decode cX0_stepBack 1 = .ok (.getfield 15, 3) := by decide +kernel
theorem dX0_stepBack_4 : decode cX0_stepBack 4 = .ok (.ifCond .ne 5, 3) := by decide +kernel
theorem dX0_stepBack_7 : decode cX0_stepBack 7 = .ok (.iconst 0, 1) := by decide +kernel
theorem dX0_stepBack_8 : decode cX0_stepBack 8 = .ok (.ireturn, 1) := by decide +kernel
theorem dX0_stepBack_9 : decode cX0_stepBack 9 = .ok (.aload_n 0, 1) := by decide +kernel
theorem dX0_stepBack_10 : decode cX0_stepBack 10 = .ok (.dup, 1) := by decide +kernel
theorem dX0_stepBack_11 : decode cX0_stepBack 11 = .ok (.getfield 15, 3) := by decide +kernel
theorem dX0_stepBack_14 : decode cX0_stepBack 14 = .ok (.iconst 1, 1) := by decide +kernel
theorem dX0_stepBack_15 : decode cX0_stepBack 15 = .ok (.isub, 1) := by decide +kernel
theorem dX0_stepBack_16 : decode cX0_stepBack 16 = .ok (.putfield 15, 3) := by decide +kernel
theorem dX0_stepBack_19 : decode cX0_stepBack 19 = .ok (.aload_n 0, 1) := by decide +kernel
theorem dX0_stepBack_20 : decode cX0_stepBack 20 = .ok (.getfield 21, 3) := by decide +kernel
theorem dX0_stepBack_23 : decode cX0_stepBack 23 = .ok (.aload_n 0, 1) := by decide +kernel
theorem dX0_stepBack_24 : decode cX0_stepBack 24 = .ok (.getfield 28, 3) := by decide +kernel
theorem dX0_stepBack_27 : decode cX0_stepBack 27 = .ok (.aload_n 0, 1) := by decide +kernel
theorem dX0_stepBack_28 : decode cX0_stepBack 28 = .ok (.getfield 25, 3) := by decide +kernel
theorem dX0_stepBack_31 : decode cX0_stepBack 31 = .ok (.aload_n 0, 1) := by decide +kernel
theorem dX0_stepBack_32 : decode cX0_stepBack 32 = .ok (.getfield 15, 3) := by decide +kernel
theorem dX0_stepBack_35 : decode cX0_stepBack 35 = .ok (.iadd, 1) := by decide +kernel
theorem dX0_stepBack_36 : decode cX0_stepBack 36 = .ok (.bipush 8, 2) := by decide +kernel
theorem dX0_stepBack_38 : decode cX0_stepBack 38 = .ok (.irem, 1) := by decide +kernel
theorem dX0_stepBack_39 : decode cX0_stepBack 39 = .ok (.aaload, 1) := by decide +kernel
theorem dX0_stepBack_40 : decode cX0_stepBack 40 = .ok (.invokevirtual 32, 3) := by decide +kernel
theorem dX0_stepBack_43 : decode cX0_stepBack 43 = .ok (.iconst 1, 1) := by decide +kernel
theorem dX0_stepBack_44 : decode cX0_stepBack 44 = .ok (.ireturn, 1) := by decide +kernel
theorem dX0_forget_0 : decode cX0_forget 0 = .ok (.aload_n 0, 1) := by decide +kernel
theorem dX0_forget_1 : decode cX0_forget 1 = .ok (.iconst 0, 1) := by decide +kernel
theorem dX0_forget_2 : decode cX0_forget 2 = .ok (.putfield 15, 3) := by decide +kernel
theorem dX0_forget_5 : decode cX0_forget 5 = .ok (.return_, 1) := by decide +kernel
theorem dX0_takeFrom_0 : decode cX0_takeFrom 0 = .ok (.aload_n 0, 1) := by decide +kernel
theorem dX0_takeFrom_1 : decode cX0_takeFrom 1 = .ok (.aload_n 1, 1) := by decide +kernel
theorem dX0_takeFrom_2 : decode cX0_takeFrom 2 = .ok (.getfield 9, 3) := by decide +kernel
theorem dX0_takeFrom_5 : decode cX0_takeFrom 5 = .ok (.putfield 9, 3) := by decide +kernel
theorem dX0_takeFrom_8 : decode cX0_takeFrom 8 = .ok (.aload_n 0, 1) := by decide +kernel
theorem dX0_takeFrom_9 : decode cX0_takeFrom 9 = .ok (.aload_n 1, 1) := by decide +kernel
theorem dX0_takeFrom_10 : decode cX0_takeFrom 10 = .ok (.getfield 15, 3) := by decide +kernel
theorem dX0_takeFrom_13 : decode cX0_takeFrom 13 = .ok (.putfield 15, 3) := by decide +kernel
theorem dX0_takeFrom_16 : decode cX0_takeFrom 16 = .ok (.aload_n 0, 1) := by decide +kernel
theorem dX0_takeFrom_17 : decode cX0_takeFrom 17 = .ok (.aload_n 1, 1) := by decide +kernel
theorem dX0_takeFrom_18 : decode cX0_takeFrom 18 = .ok (.getfield 25, 3) := by decide +kernel
theorem dX0_takeFrom_21 : decode cX0_takeFrom 21 = .ok (.putfield 25, 3) := by decide +kernel
theorem dX0_takeFrom_24 : decode cX0_takeFrom 24 = .ok (.aload_n 0, 1) := by decide +kernel
theorem dX0_takeFrom_25 : decode cX0_takeFrom 25 = .ok (.getfield 21, 3) := by decide +kernel
theorem dX0_takeFrom_28 : decode cX0_takeFrom 28 = .ok (.aload_n 1, 1) := by decide +kernel
theorem dX0_takeFrom_29 : decode cX0_takeFrom 29 = .ok (.getfield 21, 3) := by decide +kernel
theorem dX0_takeFrom_32 : decode cX0_takeFrom 32 = .ok (.invokevirtual 32, 3) := by decide +kernel
theorem dX0_takeFrom_35 : decode cX0_takeFrom 35 = .ok (.iconst 0, 1) := by decide +kernel
theorem dX0_takeFrom_36 : decode cX0_takeFrom 36 = .ok (.istore_n 2, 1) := by decide +kernel
theorem dX0_takeFrom_37 : decode cX0_takeFrom 37 = .ok (.iload_n 2, 1) := by decide +kernel
theorem dX0_takeFrom_38 : decode cX0_takeFrom 38 = .ok (.bipush 8, 2) := by decide +kernel
theorem dX0_takeFrom_40 : decode cX0_takeFrom 40 = .ok (.if_icmp .ge 24, 3) := by decide +kernel
theorem dX0_takeFrom_43 : decode cX0_takeFrom 43 = .ok (.aload_n 0, 1) := by decide +kernel
theorem dX0_takeFrom_44 : decode cX0_takeFrom 44 = .ok (.getfield 28, 3) := by decide +kernel
theorem dX0_takeFrom_47 : decode cX0_takeFrom 47 = .ok (.iload_n 2, 1) := by decide +kernel
theorem dX0_takeFrom_48 : decode cX0_takeFrom 48 = .ok (.aaload, 1) := by decide +kernel
theorem dX0_takeFrom_49 : decode cX0_takeFrom 49 = .ok (.aload_n 1, 1) := by decide +kernel
theorem dX0_takeFrom_50 : decode cX0_takeFrom 50 = .ok (.getfield 28, 3) := by decide +kernel
theorem dX0_takeFrom_53 : decode cX0_takeFrom 53 = .ok (.iload_n 2, 1) := by decide +kernel
theorem dX0_takeFrom_54 : decode cX0_takeFrom 54 = .ok (.aaload, 1) := by decide +kernel
theorem dX0_takeFrom_55 : decode cX0_takeFrom 55 = .ok (.invokevirtual 32, 3) := by decide +kernel
theorem dX0_takeFrom_58 : decode cX0_takeFrom 58 = .ok (.iinc 2 1, 3) := by decide +kernel
theorem dX0_takeFrom_61 : decode cX0_takeFrom 61 = .ok (.goto (-24), 3) := by decide +kernel
theorem dX0_takeFrom_64 : decode cX0_takeFrom 64 = .ok (.return_, 1) := by decide +kernel
theorem dX1_init_0 : decode cX1_init 0 = .ok (.aload_n 0, 1) := by decide +kernel
theorem dX1_init_1 : decode cX1_init 1 = .ok (.invokespecial 3, 3) := by decide +kernel
theorem dX1_init_4 : decode cX1_init 4 = .ok (.aload_n 0, 1) := by decide +kernel
theorem dX1_init_5 : decode cX1_init 5 = .ok (.bipush 11, 2) := by decide +kernel
theorem dX1_init_7 : decode cX1_init 7 = .ok (.bipush 12, 2) := by decide +kernel
theorem dX1_init_9 : decode cX1_init 9 = .ok (.multianewarray 9 2, 4) := by decide +kernel
theorem dX1_init_13 : decode cX1_init 13 = .ok (.putfield 11, 3) := by decide +kernel
theorem dX1_init_16 : decode cX1_init 16 = .ok (.aload_n 0, 1) := by decide +kernel
theorem dX1_init_17 : decode cX1_init 17 = .ok (.bipush 11, 2) := by decide +kernel
theorem dX1_init_19 : decode cX1_init 19 = .ok (.newarray .int, 2) := by decide +kernel
theorem dX1_init_21 : decode cX1_init 21 = .ok (.putfield 16, 3) := by decide +kernel
theorem dX1_init_24 : decode cX1_init 24 = .ok (.aload_n 0, 1) := by decide +kernel
theorem dX1_init_25 : decode cX1_init 25 = .ok (.bipush 97, 2) := by decide +kernel
theorem dX1_init_27 : decode cX1_init 27 = .ok (.newarray .int, 2) := by decide +kernel
theorem dX1_init_29 : decode cX1_init 29 = .ok (.putfield 20, 3) := by decide +kernel
theorem dX1_init_32 : decode cX1_init 32 = .ok (.aload_n 0, 1) := by decide +kernel
theorem dX1_init_33 : decode cX1_init 33 = .ok (.iconst 2, 1) := by decide +kernel
theorem dX1_init_34 : decode cX1_init 34 = .ok (.putfield 23, 3) := by decide +kernel
theorem dX1_init_37 : decode cX1_init 37 = .ok (.aload_n 0, 1) := by decide +kernel
theorem dX1_init_38 : decode cX1_init 38 = .ok (.getfield 20, 3) := by decide +kernel
theorem dX1_init_41 : decode cX1_init 41 = .ok (.iconst 1, 1) := by decide +kernel
theorem dX1_init_42 : decode cX1_init 42 = .ok (.iconst 1, 1) := by decide +kernel
theorem dX1_init_43 : decode cX1_init 43 = .ok (.iastore, 1) := by decide +kernel
theorem dX1_init_44 : decode cX1_init 44 = .ok (.return_, 1) := by decide +kernel
theorem dX1_usePrime_0 : decode cX1_usePrime 0 = .ok (.iload_n 1, 1) := by decide +kernel
theorem dX1_usePrime_1 : decode cX1_usePrime 1 = .ok (.aload_n 0, 1) := by decide +kernel
theorem dX1_usePrime_2 : decode cX1_usePrime 2 = .ok (.getfield 23, 3) := by decide +kernel
theorem dX1_usePrime_5 : decode cX1_usePrime 5 = .ok (.if_icmp .ne 4, 3) := by decide +kernel
theorem dX1_usePrime_8 : decode cX1_usePrime 8 = .ok (.return_, 1) := by decide +kernel
theorem dX1_usePrime_9 : decode cX1_usePrime 9 = .ok (.aload_n 0, 1) := by decide +kernel
theorem dX1_usePrime_10 : decode cX1_usePrime 10 = .ok (.iload_n 1, 1) := by decide +kernel
theorem dX1_usePrime_11 : decode cX1_usePrime 11 = .ok (.putfield 23, 3) := by decide +kernel
theorem dX1_usePrime_14 : decode cX1_usePrime 14 = .ok (.iconst 2, 1) := by decide +kernel
theorem dX1_usePrime_15 : decode cX1_usePrime 15 = .ok (.istore_n 2, 1) := by decide +kernel
theorem dX1_usePrime_16 : decode cX1_usePrime 16 = .ok (.iload_n 2, 1) := by decide +kernel
theorem dX1_usePrime_17 : decode cX1_usePrime 17 = .ok (.iload_n 1, 1) := by decide +kernel
theorem dX1_usePrime_18 : decode cX1_usePrime 18 = .ok (.if_icmp .ge 31, 3) := by decide +kernel
theorem dX1_usePrime_21 : decode cX1_usePrime 21 = .ok (.aload_n 0, 1) := by decide +kernel
theorem dX1_usePrime_22 : decode cX1_usePrime 22 = .ok (.getfield 20, 3) := by decide +kernel
theorem dX1_usePrime_25 : decode cX1_usePrime 25 = .ok (.iload_n 2, 1) := by decide +kernel
theorem dX1_usePrime_26 : decode cX1_usePrime 26 = .ok (.iload_n 1, 1) := by decide +kernel
theorem dX1_usePrime_27 : decode cX1_usePrime 27 = .ok (.iload_n 1, 1) := by decide +kernel
theorem dX1_usePrime_28 : decode cX1_usePrime 28 = .ok (.iload_n 2, 1) := by decide +kernel
theorem dX1_usePrime_29 : decode cX1_usePrime 29 = .ok (.idiv, 1) := by decide +kernel
theorem dX1_usePrime_30 : decode cX1_usePrime 30 = .ok (.isub, 1) := by decide +kernel
theorem dX1_usePrime_31 : decode cX1_usePrime 31 = .ok (.aload_n 0, 1) := by decide +kernel
theorem dX1_usePrime_32 : decode cX1_usePrime 32 = .ok (.getfield 20, 3) := by decide +kernel
theorem dX1_usePrime_35 : decode cX1_usePrime 35 = .ok (.iload_n 1, 1) := by decide +kernel
theorem dX1_usePrime_36 : decode cX1_usePrime 36 = .ok (.iload_n 2, 1) := by decide +kernel
theorem dX1_usePrime_37 : decode cX1_usePrime 37 = .ok (.irem, 1) := by decide +kernel
theorem dX1_usePrime_38 : decode cX1_usePrime 38 = .ok (.iaload, 1) := by decide +kernel
theorem dX1_usePrime_39 : decode cX1_usePrime 39 = .ok (.imul, 1) := by decide +kernel
theorem dX1_usePrime_40 : decode cX1_usePrime 40 = .ok (.iload_n 1, 1) := by decide +kernel
theorem dX1_usePrime_41 : decode cX1_usePrime 41 = .ok (.irem, 1) := by decide +kernel
theorem dX1_usePrime_42 : decode cX1_usePrime 42 = .ok (.iastore, 1) := by decide +kernel
theorem dX1_usePrime_43 : decode cX1_usePrime 43 = .ok (.iinc 2 1, 3) := by decide +kernel
theorem dX1_usePrime_46 : decode cX1_usePrime 46 = .ok (.goto (-30), 3) := by decide +kernel
theorem dX1_usePrime_49 : decode cX1_usePrime 49 = .ok (.return_, 1) := by decide +kernel
theorem dX1_fill_0 : decode cX1_fill 0 = .ok (.aload_n 0, 1) := by decide +kernel
theorem dX1_fill_1 : decode cX1_fill 1 = .ok (.iload_n 2, 1) := by decide +kernel
theorem dX1_fill_2 : decode cX1_fill 2 = .ok (.invokevirtual 27, 3) := by decide +kernel
theorem dX1_fill_5 : decode cX1_fill 5 = .ok (.iconst 0, 1) := by decide +kernel
theorem dX1_fill_6 : decode cX1_fill 6 = .ok (.istore 4, 2) := by decide +kernel
theorem dX1_fill_8 : decode cX1_fill 8 = .ok (.iload 4, 2) := by decide +kernel
theorem dX1_fill_10 : decode cX1_fill 10 = .ok (.iload_n 3, 1) := by decide +kernel
theorem dX1_fill_11 : decode cX1_fill 11 = .ok (.if_icmp .ge 47, 3) := by decide +kernel
theorem dX1_fill_14 : decode cX1_fill 14 = .ok (.iconst 0, 1) := by decide +kernel
theorem dX1_fill_15 : decode cX1_fill 15 = .ok (.istore 5, 2) := by decide +kernel
theorem dX1_fill_17 : decode cX1_fill 17 = .ok (.iload 5, 2) := by decide +kernel
theorem dX1_fill_19 : decode cX1_fill 19 = .ok (.iload_n 3, 1) := by decide +kernel
theorem dX1_fill_20 : decode cX1_fill 20 = .ok (.if_icmp .ge 32, 3) := by decide +kernel
theorem dX1_fill_23 : decode cX1_fill 23 = .ok (.aload_n 0, 1) := by decide +kernel
theorem dX1_fill_24 : decode cX1_fill 24 = .ok (.getfield 11, 3) := by decide +kernel
theorem dX1_fill_27 : decode cX1_fill 27 = .ok (.iload 4, 2) := by decide +kernel
theorem dX1_fill_29 : decode cX1_fill 29 = .ok (.aaload, 1) := by decide +kernel
theorem dX1_fill_30 : decode cX1_fill 30 = .ok (.iload 5, 2) := by decide +kernel
theorem dX1_fill_32 : decode cX1_fill 32 = .ok (.aload_n 1, 1) := by decide +kernel
theorem dX1_fill_33 : decode cX1_fill 33 = .ok (.aload_n 1, 1) := by decide +kernel
theorem dX1_fill_34 : decode cX1_fill 34 = .ok (.getfield 31, 3) := by decide +kernel
theorem dX1_fill_37 : decode cX1_fill 37 = .ok (.iload 4, 2) := by decide +kernel
theorem dX1_fill_39 : decode cX1_fill 39 = .ok (.iload 5, 2) := by decide +kernel
theorem dX1_fill_41 : decode cX1_fill 41 = .ok (.iload_n 2, 1) := by decide +kernel
theorem dX1_fill_42 : decode cX1_fill 42 = .ok (.invokevirtual 36, 3) := by decide +kernel
theorem dX1_fill_45 : decode cX1_fill 45 = .ok (.iastore, 1) := by decide +kernel
theorem dX1_fill_46 : decode cX1_fill 46 = .ok (.iinc 5 1, 3) := by decide +kernel
theorem dX1_fill_49 : decode cX1_fill 49 = .ok (.goto (-32), 3) := by decide +kernel
theorem dX1_fill_52 : decode cX1_fill 52 = .ok (.iinc 4 1, 3) := by decide +kernel
theorem dX1_fill_55 : decode cX1_fill 55 = .ok (.goto (-47), 3) := by decide +kernel
theorem dX1_fill_58 : decode cX1_fill 58 = .ok (.return_, 1) := by decide +kernel
theorem dX1_clearColumn_0 : decode cX1_clearColumn 0 = .ok (.iconst 0, 1) := by decide +kernel
theorem dX1_clearColumn_1 : decode cX1_clearColumn 1 = .ok (.istore_n 3, 1) := by decide +kernel
theorem dX1_clearColumn_2 : decode cX1_clearColumn 2 = .ok (.iload_n 3, 1) := by decide +kernel
theorem dX1_clearColumn_3 : decode cX1_clearColumn 3 = .ok (.iload_n 2, 1) := by decide +kernel
theorem dX1_clearColumn_4 : decode cX1_clearColumn 4 = .ok (.if_icmp .ge 18, 3) := by decide +kernel
theorem dX1_clearColumn_7 : decode cX1_clearColumn 7 = .ok (.aload_n 0, 1) := by decide +kernel
theorem dX1_clearColumn_8 : decode cX1_clearColumn 8 = .ok (.getfield 11, 3) := by decide +kernel
theorem dX1_clearColumn_11 : decode cX1_clearColumn 11 = .ok (.iload_n 3, 1) := by decide +kernel
theorem dX1_clearColumn_12 : decode cX1_clearColumn 12 = .ok (.aaload, 1) := by decide +kernel
theorem dX1_clearColumn_13 : decode cX1_clearColumn 13 = .ok (.iload_n 1, 1) := by decide +kernel
theorem dX1_clearColumn_14 : decode cX1_clearColumn 14 = .ok (.iconst 0, 1) := by decide +kernel
theorem dX1_clearColumn_15 : decode cX1_clearColumn 15 = .ok (.iastore, 1) := by decide +kernel
theorem dX1_clearColumn_16 : decode cX1_clearColumn 16 = .ok (.iinc 3 1, 3) := by decide +kernel
theorem dX1_clearColumn_19 : decode cX1_clearColumn 19 = .ok (.goto (-17), 3) := by decide +kernel
theorem dX1_clearColumn_22 : decode cX1_clearColumn 22 = .ok (.return_, 1) := by decide +kernel
theorem dX1_determinant_0 : decode cX1_determinant 0 = .ok (.iconst 1, 1) := by decide +kernel
theorem dX1_determinant_1 : decode cX1_determinant 1 = .ok (.istore_n 2, 1) := by decide +kernel
theorem dX1_determinant_2 : decode cX1_determinant 2 = .ok (.iconst 0, 1) := by decide +kernel
theorem dX1_determinant_3 : decode cX1_determinant 3 = .ok (.istore_n 3, 1) := by decide +kernel
theorem dX1_determinant_4 : decode cX1_determinant 4 = .ok (.iload_n 3, 1) := by decide +kernel
theorem dX1_determinant_5 : decode cX1_determinant 5 = .ok (.iload_n 1, 1) := by decide +kernel
theorem dX1_determinant_6 : decode cX1_determinant 6 = .ok (.if_icmp .ge 96, 3) := by decide +kernel
theorem dX1_determinant_9 : decode cX1_determinant 9 = .ok (.aload_n 0, 1) := by decide +kernel
theorem dX1_determinant_10 : decode cX1_determinant 10 = .ok (.iload_n 3, 1) := by decide +kernel
theorem dX1_determinant_11 : decode cX1_determinant 11 = .ok (.iload_n 3, 1) := by decide +kernel
theorem dX1_determinant_12 : decode cX1_determinant 12 = .ok (.iload_n 1, 1) := by decide +kernel
theorem dX1_determinant_13 : decode cX1_determinant 13 = .ok (.iload_n 1, 1) := by decide +kernel
theorem dX1_determinant_14 : decode cX1_determinant 14 = .ok (.invokevirtual 40, 3) := by decide +kernel
theorem dX1_determinant_17 : decode cX1_determinant 17 = .ok (.ifCond .ne 5, 3) := by decide +kernel
theorem dX1_determinant_20 : decode cX1_determinant 20 = .ok (.iconst 0, 1) := by decide +kernel
theorem dX1_determinant_21 : decode cX1_determinant 21 = .ok (.ireturn, 1) := by decide +kernel
theorem dX1_determinant_22 : decode cX1_determinant 22 = .ok (.iload_n 2, 1) := by decide +kernel
theorem dX1_determinant_23 : decode cX1_determinant 23 = .ok (.aload_n 0, 1) := by decide +kernel
theorem dX1_determinant_24 : decode cX1_determinant 24 = .ok (.getfield 11, 3) := by decide +kernel
theorem dX1_determinant_27 : decode cX1_determinant 27 = .ok (.iload_n 3, 1) := by decide +kernel
theorem dX1_determinant_28 : decode cX1_determinant 28 = .ok (.aaload, 1) := by decide +kernel
theorem dX1_determinant_29 : decode cX1_determinant 29 = .ok (.iload_n 3, 1) := by decide +kernel
theorem dX1_determinant_30 : decode cX1_determinant 30 = .ok (.iaload, 1) := by decide +kernel
theorem dX1_determinant_31 : decode cX1_determinant 31 = .ok (.imul, 1) := by decide +kernel
theorem dX1_determinant_32 : decode cX1_determinant 32 = .ok (.aload_n 0, 1) := by decide +kernel
theorem dX1_determinant_33 : decode cX1_determinant 33 = .ok (.getfield 23, 3) := by decide +kernel
theorem dX1_determinant_36 : decode cX1_determinant 36 = .ok (.irem, 1) := by decide +kernel
theorem dX1_determinant_37 : decode cX1_determinant 37 = .ok (.istore_n 2, 1) := by decide +kernel
theorem dX1_determinant_38 : decode cX1_determinant 38 = .ok (.aload_n 0, 1) := by decide +kernel
theorem dX1_determinant_39 : decode cX1_determinant 39 = .ok (.getfield 20, 3) := by decide +kernel
theorem dX1_determinant_42 : decode cX1_determinant 42 = .ok (.aload_n 0, 1) := by decide +kernel
theorem dX1_determinant_43 : decode cX1_determinant 43 = .ok (.getfield 11, 3) := by decide +kernel
theorem dX1_determinant_46 : decode cX1_determinant 46 = .ok (.iload_n 3, 1) := by decide +kernel
theorem dX1_determinant_47 : decode cX1_determinant 47 = .ok (.aaload, 1) := by decide +kernel
theorem dX1_determinant_48 : decode cX1_determinant 48 = .ok (.iload_n 3, 1) := by decide +kernel
theorem dX1_determinant_49 : decode cX1_determinant 49 = .ok (.iaload, 1) := by decide +kernel
theorem dX1_determinant_50 : decode cX1_determinant 50 = .ok (.iaload, 1) := by decide +kernel
theorem dX1_determinant_51 : decode cX1_determinant 51 = .ok (.istore 4, 2) := by decide +kernel
theorem dX1_determinant_53 : decode cX1_determinant 53 = .ok (.iload_n 3, 1) := by decide +kernel
theorem dX1_determinant_54 : decode cX1_determinant 54 = .ok (.iconst 1, 1) := by decide +kernel
theorem dX1_determinant_55 : decode cX1_determinant 55 = .ok (.iadd, 1) := by decide +kernel
theorem dX1_determinant_56 : decode cX1_determinant 56 = .ok (.istore 5, 2) := by decide +kernel
theorem dX1_determinant_58 : decode cX1_determinant 58 = .ok (.iload 5, 2) := by decide +kernel
theorem dX1_determinant_60 : decode cX1_determinant 60 = .ok (.iload_n 1, 1) := by decide +kernel
theorem dX1_determinant_61 : decode cX1_determinant 61 = .ok (.if_icmp .ge 35, 3) := by decide +kernel
theorem dX1_determinant_64 : decode cX1_determinant 64 = .ok (.aload_n 0, 1) := by decide +kernel
theorem dX1_determinant_65 : decode cX1_determinant 65 = .ok (.iload 5, 2) := by decide +kernel
theorem dX1_determinant_67 : decode cX1_determinant 67 = .ok (.iload_n 3, 1) := by decide +kernel
theorem dX1_determinant_68 : decode cX1_determinant 68 = .ok (.aload_n 0, 1) := by decide +kernel
theorem dX1_determinant_69 : decode cX1_determinant 69 = .ok (.getfield 11, 3) := by decide +kernel
theorem dX1_determinant_72 : decode cX1_determinant 72 = .ok (.iload 5, 2) := by decide +kernel
theorem dX1_determinant_74 : decode cX1_determinant 74 = .ok (.aaload, 1) := by decide +kernel
theorem dX1_determinant_75 : decode cX1_determinant 75 = .ok (.iload_n 3, 1) := by decide +kernel
theorem dX1_determinant_76 : decode cX1_determinant 76 = .ok (.iaload, 1) := by decide +kernel
theorem dX1_determinant_77 : decode cX1_determinant 77 = .ok (.iload 4, 2) := by decide +kernel
theorem dX1_determinant_79 : decode cX1_determinant 79 = .ok (.imul, 1) := by decide +kernel
theorem dX1_determinant_80 : decode cX1_determinant 80 = .ok (.aload_n 0, 1) := by decide +kernel
theorem dX1_determinant_81 : decode cX1_determinant 81 = .ok (.getfield 23, 3) := by decide +kernel
theorem dX1_determinant_84 : decode cX1_determinant 84 = .ok (.irem, 1) := by decide +kernel
theorem dX1_determinant_85 : decode cX1_determinant 85 = .ok (.iload_n 3, 1) := by decide +kernel
theorem dX1_determinant_86 : decode cX1_determinant 86 = .ok (.iload_n 1, 1) := by decide +kernel
theorem dX1_determinant_87 : decode cX1_determinant 87 = .ok (.invokevirtual 44, 3) := by decide +kernel
theorem dX1_determinant_90 : decode cX1_determinant 90 = .ok (.iinc 5 1, 3) := by decide +kernel
theorem dX1_determinant_93 : decode cX1_determinant 93 = .ok (.goto (-35), 3) := by decide +kernel
theorem dX1_determinant_96 : decode cX1_determinant 96 = .ok (.iinc 3 1, 3) := by decide +kernel
theorem dX1_determinant_99 : decode cX1_determinant 99 = .ok (.goto (-95), 3) := by decide +kernel
theorem dX1_determinant_102 : decode cX1_determinant 102 = .ok (.iload_n 2, 1) := by decide +kernel
theorem dX1_determinant_103 : decode cX1_determinant 103 = .ok (.ireturn, 1) := by decide +kernel
theorem dX1_solveLeast_0 : decode cX1_solveLeast 0 = .ok (.iconst 0, 1) := by decide +kernel
theorem dX1_solveLeast_1 : decode cX1_solveLeast 1 = .ok (.istore_n 3, 1) := by decide +kernel
theorem dX1_solveLeast_2 : decode cX1_solveLeast 2 = .ok (.iload_n 2, 1) := by decide +kernel
theorem dX1_solveLeast_3 : decode cX1_solveLeast 3 = .ok (.iconst 1, 1) := by decide +kernel
theorem dX1_solveLeast_4 : decode cX1_solveLeast 4 = .ok (.isub, 1) := by decide +kernel
theorem dX1_solveLeast_5 : decode cX1_solveLeast 5 = .ok (.istore 4, 2) := by decide +kernel
theorem dX1_solveLeast_7 : decode cX1_solveLeast 7 = .ok (.iload 4, 2) := by decide +kernel
theorem dX1_solveLeast_9 : decode cX1_solveLeast 9 = .ok (.ifCond .lt 51, 3) := by decide +kernel
theorem dX1_solveLeast_12 : decode cX1_solveLeast 12 = .ok (.aload_n 0, 1) := by decide +kernel
theorem dX1_solveLeast_13 : decode cX1_solveLeast 13 = .ok (.getfield 16, 3) := by decide +kernel
theorem dX1_solveLeast_16 : decode cX1_solveLeast 16 = .ok (.iload 4, 2) := by decide +kernel
theorem dX1_solveLeast_18 : decode cX1_solveLeast 18 = .ok (.iconst (-1), 1) := by decide +kernel
theorem dX1_solveLeast_19 : decode cX1_solveLeast 19 = .ok (.iastore, 1) := by decide +kernel
theorem dX1_solveLeast_20 : decode cX1_solveLeast 20 = .ok (.aload_n 0, 1) := by decide +kernel
theorem dX1_solveLeast_21 : decode cX1_solveLeast 21 = .ok (.iload 4, 2) := by decide +kernel
theorem dX1_solveLeast_23 : decode cX1_solveLeast 23 = .ok (.iload_n 3, 1) := by decide +kernel
theorem dX1_solveLeast_24 : decode cX1_solveLeast 24 = .ok (.iload_n 1, 1) := by decide +kernel
theorem dX1_solveLeast_25 : decode cX1_solveLeast 25 = .ok (.iload_n 2, 1) := by decide +kernel
theorem dX1_solveLeast_26 : decode cX1_solveLeast 26 = .ok (.iconst 1, 1) := by decide +kernel
theorem dX1_solveLeast_27 : decode cX1_solveLeast 27 = .ok (.iadd, 1) := by decide +kernel
theorem dX1_solveLeast_28 : decode cX1_solveLeast 28 = .ok (.invokevirtual 40, 3) := by decide +kernel
theorem dX1_solveLeast_31 : decode cX1_solveLeast 31 = .ok (.ifCond .eq 23, 3) := by decide +kernel
theorem dX1_solveLeast_34 : decode cX1_solveLeast 34 = .ok (.aload_n 0, 1) := by decide +kernel
theorem dX1_solveLeast_35 : decode cX1_solveLeast 35 = .ok (.iload_n 3, 1) := by decide +kernel
theorem dX1_solveLeast_36 : decode cX1_solveLeast 36 = .ok (.iload 4, 2) := by decide +kernel
theorem dX1_solveLeast_38 : decode cX1_solveLeast 38 = .ok (.iload_n 1, 1) := by decide +kernel
theorem dX1_solveLeast_39 : decode cX1_solveLeast 39 = .ok (.iload_n 2, 1) := by decide +kernel
theorem dX1_solveLeast_40 : decode cX1_solveLeast 40 = .ok (.invokevirtual 48, 3) := by decide +kernel
theorem dX1_solveLeast_43 : decode cX1_solveLeast 43 = .ok (.aload_n 0, 1) := by decide +kernel
theorem dX1_solveLeast_44 : decode cX1_solveLeast 44 = .ok (.getfield 16, 3) := by decide +kernel
theorem dX1_solveLeast_47 : decode cX1_solveLeast 47 = .ok (.iload 4, 2) := by decide +kernel
theorem dX1_solveLeast_49 : decode cX1_solveLeast 49 = .ok (.iload_n 3, 1) := by decide +kernel
theorem dX1_solveLeast_50 : decode cX1_solveLeast 50 = .ok (.iastore, 1) := by decide +kernel
theorem dX1_solveLeast_51 : decode cX1_solveLeast 51 = .ok (.iinc 3 1, 3) := by decide +kernel
theorem dX1_solveLeast_54 : decode cX1_solveLeast 54 = .ok (.iinc 4 (-1), 3) := by decide +kernel
theorem dX1_solveLeast_57 : decode cX1_solveLeast 57 = .ok (.goto (-50), 3) := by decide +kernel
theorem dX1_solveLeast_60 : decode cX1_solveLeast 60 = .ok (.iload_n 3, 1) := by decide +kernel
theorem dX1_solveLeast_61 : decode cX1_solveLeast 61 = .ok (.istore 4, 2) := by decide +kernel
theorem dX1_solveLeast_63 : decode cX1_solveLeast 63 = .ok (.iload 4, 2) := by decide +kernel
theorem dX1_solveLeast_65 : decode cX1_solveLeast 65 = .ok (.iload_n 1, 1) := by decide +kernel
theorem dX1_solveLeast_66 : decode cX1_solveLeast 66 = .ok (.if_icmp .ge 23, 3) := by decide +kernel
theorem dX1_solveLeast_69 : decode cX1_solveLeast 69 = .ok (.aload_n 0, 1) := by decide +kernel
theorem dX1_solveLeast_70 : decode cX1_solveLeast 70 = .ok (.getfield 11, 3) := by decide +kernel
theorem dX1_solveLeast_73 : decode cX1_solveLeast 73 = .ok (.iload 4, 2) := by decide +kernel
theorem dX1_solveLeast_75 : decode cX1_solveLeast 75 = .ok (.aaload, 1) := by decide +kernel
theorem dX1_solveLeast_76 : decode cX1_solveLeast 76 = .ok (.iload_n 2, 1) := by decide +kernel
theorem dX1_solveLeast_77 : decode cX1_solveLeast 77 = .ok (.iaload, 1) := by decide +kernel
theorem dX1_solveLeast_78 : decode cX1_solveLeast 78 = .ok (.ifCond .eq 5, 3) := by decide +kernel
theorem dX1_solveLeast_81 : decode cX1_solveLeast 81 = .ok (.iconst (-1), 1) := by decide +kernel
theorem dX1_solveLeast_82 : decode cX1_solveLeast 82 = .ok (.ireturn, 1) := by decide +kernel
theorem dX1_solveLeast_83 : decode cX1_solveLeast 83 = .ok (.iinc 4 1, 3) := by decide +kernel
theorem dX1_solveLeast_86 : decode cX1_solveLeast 86 = .ok (.goto (-23), 3) := by decide +kernel
theorem dX1_solveLeast_89 : decode cX1_solveLeast 89 = .ok (.iconst 0, 1) := by decide +kernel
theorem dX1_solveLeast_90 : decode cX1_solveLeast 90 = .ok (.istore 4, 2) := by decide +kernel
theorem dX1_solveLeast_92 : decode cX1_solveLeast 92 = .ok (.iload 4, 2) := by decide +kernel
theorem dX1_solveLeast_94 : decode cX1_solveLeast 94 = .ok (.iload_n 2, 1) := by decide +kernel
theorem dX1_solveLeast_95 : decode cX1_solveLeast 95 = .ok (.if_icmp .ge 44, 3) := by decide +kernel
theorem dX1_solveLeast_98 : decode cX1_solveLeast 98 = .ok (.aload_n 0, 1) := by decide +kernel
theorem dX1_solveLeast_99 : decode cX1_solveLeast 99 = .ok (.getfield 16, 3) := by decide +kernel
theorem dX1_solveLeast_102 : decode cX1_solveLeast 102 = .ok (.iload 4, 2) := by decide +kernel
theorem dX1_solveLeast_104 : decode cX1_solveLeast 104 = .ok (.aload_n 0, 1) := by decide +kernel
theorem dX1_solveLeast_105 : decode cX1_solveLeast 105 = .ok (.getfield 16, 3) := by decide +kernel
theorem dX1_solveLeast_108 : decode cX1_solveLeast 108 = .ok (.iload 4, 2) := by decide +kernel
theorem dX1_solveLeast_110 : decode cX1_solveLeast 110 = .ok (.iaload, 1) := by decide +kernel
theorem dX1_solveLeast_111 : decode cX1_solveLeast 111 = .ok (.ifCond .ge 7, 3) := by decide +kernel
theorem dX1_solveLeast_114 : decode cX1_solveLeast 114 = .ok (.iconst 0, 1) := by decide +kernel
theorem dX1_solveLeast_115 : decode cX1_solveLeast 115 = .ok (.goto 17, 3) := by decide +kernel
theorem dX1_solveLeast_118 : decode cX1_solveLeast 118 = .ok (.aload_n 0, 1) := by decide +kernel
theorem dX1_solveLeast_119 : decode cX1_solveLeast 119 = .ok (.getfield 11, 3) := by decide +kernel
theorem dX1_solveLeast_122 : decode cX1_solveLeast 122 = .ok (.aload_n 0, 1) := by decide +kernel
theorem dX1_solveLeast_123 : decode cX1_solveLeast 123 = .ok (.getfield 16, 3) := by decide +kernel
theorem dX1_solveLeast_126 : decode cX1_solveLeast 126 = .ok (.iload 4, 2) := by decide +kernel
theorem dX1_solveLeast_128 : decode cX1_solveLeast 128 = .ok (.iaload, 1) := by decide +kernel
theorem dX1_solveLeast_129 : decode cX1_solveLeast 129 = .ok (.aaload, 1) := by decide +kernel
theorem dX1_solveLeast_130 : decode cX1_solveLeast 130 = .ok (.iload_n 2, 1) := by decide +kernel
theorem dX1_solveLeast_131 : decode cX1_solveLeast 131 = .ok (.iaload, 1) := by decide +kernel
theorem dX1_solveLeast_132 : decode cX1_solveLeast 132 = .ok (.iastore, 1) := by decide +kernel
theorem dX1_solveLeast_133 : decode cX1_solveLeast 133 = .ok (.iinc 4 1, 3) := by decide +kernel
theorem dX1_solveLeast_136 : decode cX1_solveLeast 136 = .ok (.goto (-44), 3) := by decide +kernel
theorem dX1_solveLeast_139 : decode cX1_solveLeast 139 = .ok (.iload_n 3, 1) := by decide +kernel
theorem dX1_solveLeast_140 : decode cX1_solveLeast 140 = .ok (.ireturn, 1) := by decide +kernel
theorem dX1_clearOthers_0 : decode cX1_clearOthers 0 = .ok (.aload_n 0, 1) := by decide +kernel
theorem dX1_clearOthers_1 : decode cX1_clearOthers 1 = .ok (.getfield 20, 3) := by decide +kernel
theorem dX1_clearOthers_4 : decode cX1_clearOthers 4 = .ok (.aload_n 0, 1) := by decide +kernel
theorem dX1_clearOthers_5 : decode cX1_clearOthers 5 = .ok (.getfield 11, 3) := by decide +kernel
theorem dX1_clearOthers_8 : decode cX1_clearOthers 8 = .ok (.iload_n 1, 1) := by decide +kernel
theorem dX1_clearOthers_9 : decode cX1_clearOthers 9 = .ok (.aaload, 1) := by decide +kernel
theorem dX1_clearOthers_10 : decode cX1_clearOthers 10 = .ok (.iload_n 2, 1) := by decide +kernel
theorem dX1_clearOthers_11 : decode cX1_clearOthers 11 = .ok (.iaload, 1) := by decide +kernel
theorem dX1_clearOthers_12 : decode cX1_clearOthers 12 = .ok (.iaload, 1) := by decide +kernel
theorem dX1_clearOthers_13 : decode cX1_clearOthers 13 = .ok (.istore 5, 2) := by decide +kernel
theorem dX1_clearOthers_15 : decode cX1_clearOthers 15 = .ok (.iconst 0, 1) := by decide +kernel
theorem dX1_clearOthers_16 : decode cX1_clearOthers 16 = .ok (.istore 6, 2) := by decide +kernel
theorem dX1_clearOthers_18 : decode cX1_clearOthers 18 = .ok (.iload 6, 2) := by decide +kernel
theorem dX1_clearOthers_20 : decode cX1_clearOthers 20 = .ok (.iload 4, 2) := by decide +kernel
theorem dX1_clearOthers_22 : decode cX1_clearOthers 22 = .ok (.if_icmp .gt 35, 3) := by decide +kernel
theorem dX1_clearOthers_25 : decode cX1_clearOthers 25 = .ok (.aload_n 0, 1) := by decide +kernel
theorem dX1_clearOthers_26 : decode cX1_clearOthers 26 = .ok (.getfield 11, 3) := by decide +kernel
theorem dX1_clearOthers_29 : decode cX1_clearOthers 29 = .ok (.iload_n 1, 1) := by decide +kernel
theorem dX1_clearOthers_30 : decode cX1_clearOthers 30 = .ok (.aaload, 1) := by decide +kernel
theorem dX1_clearOthers_31 : decode cX1_clearOthers 31 = .ok (.iload 6, 2) := by decide +kernel
theorem dX1_clearOthers_33 : decode cX1_clearOthers 33 = .ok (.aload_n 0, 1) := by decide +kernel
theorem dX1_clearOthers_34 : decode cX1_clearOthers 34 = .ok (.getfield 11, 3) := by decide +kernel
theorem dX1_clearOthers_37 : decode cX1_clearOthers 37 = .ok (.iload_n 1, 1) := by decide +kernel
theorem dX1_clearOthers_38 : decode cX1_clearOthers 38 = .ok (.aaload, 1) := by decide +kernel
theorem dX1_clearOthers_39 : decode cX1_clearOthers 39 = .ok (.iload 6, 2) := by decide +kernel
theorem dX1_clearOthers_41 : decode cX1_clearOthers 41 = .ok (.iaload, 1) := by decide +kernel
theorem dX1_clearOthers_42 : decode cX1_clearOthers 42 = .ok (.iload 5, 2) := by decide +kernel
theorem dX1_clearOthers_44 : decode cX1_clearOthers 44 = .ok (.imul, 1) := by decide +kernel
theorem dX1_clearOthers_45 : decode cX1_clearOthers 45 = .ok (.aload_n 0, 1) := by decide +kernel
theorem dX1_clearOthers_46 : decode cX1_clearOthers 46 = .ok (.getfield 23, 3) := by decide +kernel
theorem dX1_clearOthers_49 : decode cX1_clearOthers 49 = .ok (.irem, 1) := by decide +kernel
theorem dX1_clearOthers_50 : decode cX1_clearOthers 50 = .ok (.iastore, 1) := by decide +kernel
theorem dX1_clearOthers_51 : decode cX1_clearOthers 51 = .ok (.iinc 6 1, 3) := by decide +kernel
theorem dX1_clearOthers_54 : decode cX1_clearOthers 54 = .ok (.goto (-36), 3) := by decide +kernel
theorem dX1_clearOthers_57 : decode cX1_clearOthers 57 = .ok (.iconst 0, 1) := by decide +kernel
theorem dX1_clearOthers_58 : decode cX1_clearOthers 58 = .ok (.istore 6, 2) := by decide +kernel
theorem dX1_clearOthers_60 : decode cX1_clearOthers 60 = .ok (.iload 6, 2) := by decide +kernel
theorem dX1_clearOthers_62 : decode cX1_clearOthers 62 = .ok (.iload_n 3, 1) := by decide +kernel
theorem dX1_clearOthers_63 : decode cX1_clearOthers 63 = .ok (.if_icmp .ge 36, 3) := by decide +kernel
theorem dX1_clearOthers_66 : decode cX1_clearOthers 66 = .ok (.iload 6, 2) := by decide +kernel
theorem dX1_clearOthers_68 : decode cX1_clearOthers 68 = .ok (.iload_n 1, 1) := by decide +kernel
theorem dX1_clearOthers_69 : decode cX1_clearOthers 69 = .ok (.if_icmp .eq 24, 3) := by decide +kernel
theorem dX1_clearOthers_72 : decode cX1_clearOthers 72 = .ok (.aload_n 0, 1) := by decide +kernel
theorem dX1_clearOthers_73 : decode cX1_clearOthers 73 = .ok (.iload 6, 2) := by decide +kernel
theorem dX1_clearOthers_75 : decode cX1_clearOthers 75 = .ok (.iload_n 1, 1) := by decide +kernel
theorem dX1_clearOthers_76 : decode cX1_clearOthers 76 = .ok (.aload_n 0, 1) := by decide +kernel
theorem dX1_clearOthers_77 : decode cX1_clearOthers 77 = .ok (.getfield 11, 3) := by decide +kernel
theorem dX1_clearOthers_80 : decode cX1_clearOthers 80 = .ok (.iload 6, 2) := by decide +kernel
theorem dX1_clearOthers_82 : decode cX1_clearOthers 82 = .ok (.aaload, 1) := by decide +kernel
theorem dX1_clearOthers_83 : decode cX1_clearOthers 83 = .ok (.iload_n 2, 1) := by decide +kernel
theorem dX1_clearOthers_84 : decode cX1_clearOthers 84 = .ok (.iaload, 1) := by decide +kernel
theorem dX1_clearOthers_85 : decode cX1_clearOthers 85 = .ok (.iconst 0, 1) := by decide +kernel
theorem dX1_clearOthers_86 : decode cX1_clearOthers 86 = .ok (.iload 4, 2) := by decide +kernel
theorem dX1_clearOthers_88 : decode cX1_clearOthers 88 = .ok (.iconst 1, 1) := by decide +kernel
theorem dX1_clearOthers_89 : decode cX1_clearOthers 89 = .ok (.iadd, 1) := by decide +kernel
theorem dX1_clearOthers_90 : decode cX1_clearOthers 90 = .ok (.invokevirtual 44, 3) := by decide +kernel
theorem dX1_clearOthers_93 : decode cX1_clearOthers 93 = .ok (.iinc 6 1, 3) := by decide +kernel
theorem dX1_clearOthers_96 : decode cX1_clearOthers 96 = .ok (.goto (-36), 3) := by decide +kernel
theorem dX1_clearOthers_99 : decode cX1_clearOthers 99 = .ok (.return_, 1) := by decide +kernel
theorem dX1_findPivot_0 : decode cX1_findPivot 0 = .ok (.iload_n 2, 1) := by decide +kernel
theorem dX1_findPivot_1 : decode cX1_findPivot 1 = .ok (.istore 5, 2) := by decide +kernel
theorem dX1_findPivot_3 : decode cX1_findPivot 3 = .ok (.iload 5, 2) := by decide +kernel
theorem dX1_findPivot_5 : decode cX1_findPivot 5 = .ok (.iload_n 3, 1) := by decide +kernel
theorem dX1_findPivot_6 : decode cX1_findPivot 6 = .ok (.if_icmp .ge 45, 3) := by decide +kernel
theorem dX1_findPivot_9 : decode cX1_findPivot 9 = .ok (.aload_n 0, 1) := by decide +kernel
theorem dX1_findPivot_10 : decode cX1_findPivot 10 = .ok (.getfield 11, 3) := by decide +kernel
theorem dX1_findPivot_13 : decode cX1_findPivot 13 = .ok (.iload 5, 2) := by decide +kernel
theorem dX1_findPivot_15 : decode cX1_findPivot 15 = .ok (.aaload, 1) := by decide +kernel
theorem dX1_findPivot_16 : decode cX1_findPivot 16 = .ok (.iload_n 1, 1) := by decide +kernel
theorem dX1_findPivot_17 : decode cX1_findPivot 17 = .ok (.iaload, 1) := by decide +kernel
theorem dX1_findPivot_18 : decode cX1_findPivot 18 = .ok (.ifCond .eq 27, 3) := by decide +kernel
theorem dX1_findPivot_21 : decode cX1_findPivot 21 = .ok (.iload 5, 2) := by decide +kernel
theorem dX1_findPivot_23 : decode cX1_findPivot 23 = .ok (.iload_n 2, 1) := by decide +kernel
theorem dX1_findPivot_24 : decode cX1_findPivot 24 = .ok (.if_icmp .eq 19, 3) := by decide +kernel
theorem dX1_findPivot_27 : decode cX1_findPivot 27 = .ok (.aload_n 0, 1) := by decide +kernel
theorem dX1_findPivot_28 : decode cX1_findPivot 28 = .ok (.iload_n 2, 1) := by decide +kernel
theorem dX1_findPivot_29 : decode cX1_findPivot 29 = .ok (.iload 5, 2) := by decide +kernel
theorem dX1_findPivot_31 : decode cX1_findPivot 31 = .ok (.aload_n 0, 1) := by decide +kernel
theorem dX1_findPivot_32 : decode cX1_findPivot 32 = .ok (.getfield 23, 3) := by decide +kernel
theorem dX1_findPivot_35 : decode cX1_findPivot 35 = .ok (.iconst 1, 1) := by decide +kernel
theorem dX1_findPivot_36 : decode cX1_findPivot 36 = .ok (.isub, 1) := by decide +kernel
theorem dX1_findPivot_37 : decode cX1_findPivot 37 = .ok (.iconst 0, 1) := by decide +kernel
theorem dX1_findPivot_38 : decode cX1_findPivot 38 = .ok (.iload 4, 2) := by decide +kernel
theorem dX1_findPivot_40 : decode cX1_findPivot 40 = .ok (.invokevirtual 44, 3) := by decide +kernel
theorem dX1_findPivot_43 : decode cX1_findPivot 43 = .ok (.iconst 1, 1) := by decide +kernel
theorem dX1_findPivot_44 : decode cX1_findPivot 44 = .ok (.ireturn, 1) := by decide +kernel
theorem dX1_findPivot_45 : decode cX1_findPivot 45 = .ok (.iinc 5 1, 3) := by decide +kernel
theorem dX1_findPivot_48 : decode cX1_findPivot 48 = .ok (.goto (-45), 3) := by decide +kernel
theorem dX1_findPivot_51 : decode cX1_findPivot 51 = .ok (.iconst 0, 1) := by decide +kernel
theorem dX1_findPivot_52 : decode cX1_findPivot 52 = .ok (.ireturn, 1) := by decide +kernel
theorem dX1_takeAway_0 : decode cX1_takeAway 0 = .ok (.iload_n 3, 1) := by decide +kernel
theorem dX1_takeAway_1 : decode cX1_takeAway 1 = .ok (.ifCond .ne 4, 3) := by decide +kernel
theorem dX1_takeAway_4 : decode cX1_takeAway 4 = .ok (.return_, 1) := by decide +kernel
theorem dX1_takeAway_5 : decode cX1_takeAway 5 = .ok (.aload_n 0, 1) := by decide +kernel
theorem dX1_takeAway_6 : decode cX1_takeAway 6 = .ok (.getfield 11, 3) := by decide +kernel
theorem dX1_takeAway_9 : decode cX1_takeAway 9 = .ok (.iload_n 1, 1) := by decide +kernel
theorem dX1_takeAway_10 : decode cX1_takeAway 10 = .ok (.aaload, 1) := by decide +kernel
theorem dX1_takeAway_11 : decode cX1_takeAway 11 = .ok (.astore 6, 2) := by decide +kernel
theorem dX1_takeAway_13 : decode cX1_takeAway 13 = .ok (.aload_n 0, 1) := by decide +kernel
theorem dX1_takeAway_14 : decode cX1_takeAway 14 = .ok (.getfield 11, 3) := by decide +kernel
theorem dX1_takeAway_17 : decode cX1_takeAway 17 = .ok (.iload_n 2, 1) := by decide +kernel
theorem dX1_takeAway_18 : decode cX1_takeAway 18 = .ok (.aaload, 1) := by decide +kernel
theorem dX1_takeAway_19 : decode cX1_takeAway 19 = .ok (.astore 7, 2) := by decide +kernel
theorem dX1_takeAway_21 : decode cX1_takeAway 21 = .ok (.aload_n 0, 1) := by decide +kernel
theorem dX1_takeAway_22 : decode cX1_takeAway 22 = .ok (.getfield 23, 3) := by decide +kernel
theorem dX1_takeAway_25 : decode cX1_takeAway 25 = .ok (.iload_n 3, 1) := by decide +kernel
theorem dX1_takeAway_26 : decode cX1_takeAway 26 = .ok (.isub, 1) := by decide +kernel
theorem dX1_takeAway_27 : decode cX1_takeAway 27 = .ok (.istore 8, 2) := by decide +kernel
theorem dX1_takeAway_29 : decode cX1_takeAway 29 = .ok (.iload 4, 2) := by decide +kernel
theorem dX1_takeAway_31 : decode cX1_takeAway 31 = .ok (.istore 9, 2) := by decide +kernel
theorem dX1_takeAway_33 : decode cX1_takeAway 33 = .ok (.iload 9, 2) := by decide +kernel
theorem dX1_takeAway_35 : decode cX1_takeAway 35 = .ok (.iload 5, 2) := by decide +kernel
theorem dX1_takeAway_37 : decode cX1_takeAway 37 = .ok (.if_icmp .ge 33, 3) := by decide +kernel
theorem dX1_takeAway_40 : decode cX1_takeAway 40 = .ok (.aload 6, 2) := by decide +kernel
theorem dX1_takeAway_42 : decode cX1_takeAway 42 = .ok (.iload 9, 2) := by decide +kernel
theorem dX1_takeAway_44 : decode cX1_takeAway 44 = .ok (.aload 6, 2) := by decide +kernel
theorem dX1_takeAway_46 : decode cX1_takeAway 46 = .ok (.iload 9, 2) := by decide +kernel
theorem dX1_takeAway_48 : decode cX1_takeAway 48 = .ok (.iaload, 1) := by decide +kernel
theorem dX1_takeAway_49 : decode cX1_takeAway 49 = .ok (.iload 8, 2) := by decide +kernel
theorem dX1_takeAway_51 : decode cX1_takeAway 51 = .ok (.aload 7, 2) := by decide +kernel
theorem dX1_takeAway_53 : decode cX1_takeAway 53 = .ok (.iload 9, 2) := by decide +kernel
theorem dX1_takeAway_55 : decode cX1_takeAway 55 = .ok (.iaload, 1) := by decide +kernel
theorem dX1_takeAway_56 : decode cX1_takeAway 56 = .ok (.imul, 1) := by decide +kernel
theorem dX1_takeAway_57 : decode cX1_takeAway 57 = .ok (.iadd, 1) := by decide +kernel
theorem dX1_takeAway_58 : decode cX1_takeAway 58 = .ok (.aload_n 0, 1) := by decide +kernel
theorem dX1_takeAway_59 : decode cX1_takeAway 59 = .ok (.getfield 23, 3) := by decide +kernel
theorem dX1_takeAway_62 : decode cX1_takeAway 62 = .ok (.irem, 1) := by decide +kernel
theorem dX1_takeAway_63 : decode cX1_takeAway 63 = .ok (.iastore, 1) := by decide +kernel
theorem dX1_takeAway_64 : decode cX1_takeAway 64 = .ok (.iinc 9 1, 3) := by decide +kernel
theorem dX1_takeAway_67 : decode cX1_takeAway 67 = .ok (.goto (-34), 3) := by decide +kernel
theorem dX1_takeAway_70 : decode cX1_takeAway 70 = .ok (.return_, 1) := by decide +kernel
theorem dX2_init_0 : decode cX2_init 0 = .ok (.aload_n 0, 1) := by decide +kernel
theorem dX2_init_1 : decode cX2_init 1 = .ok (.invokespecial 3, 3) := by decide +kernel
theorem dX2_init_4 : decode cX2_init 4 = .ok (.aload_n 0, 1) := by decide +kernel
theorem dX2_init_5 : decode cX2_init 5 = .ok (.iconst 0, 1) := by decide +kernel
theorem dX2_init_6 : decode cX2_init 6 = .ok (.putfield 9, 3) := by decide +kernel
theorem dX2_init_9 : decode cX2_init 9 = .ok (.aload_n 0, 1) := by decide +kernel
theorem dX2_init_10 : decode cX2_init 10 = .ok (.new 15, 3) := by decide +kernel
theorem dX2_init_13 : decode cX2_init 13 = .ok (.dup, 1) := by decide +kernel
theorem dX2_init_14 : decode cX2_init 14 = .ok (.invokespecial 17, 3) := by decide +kernel
theorem dX2_init_17 : decode cX2_init 17 = .ok (.putfield 18, 3) := by decide +kernel
theorem dX2_init_20 : decode cX2_init 20 = .ok (.aload_n 0, 1) := by decide +kernel
theorem dX2_init_21 : decode cX2_init 21 = .ok (.bipush 70, 2) := by decide +kernel
theorem dX2_init_23 : decode cX2_init 23 = .ok (.newarray .int, 2) := by decide +kernel
theorem dX2_init_25 : decode cX2_init 25 = .ok (.putfield 22, 3) := by decide +kernel
theorem dX2_init_28 : decode cX2_init 28 = .ok (.aload_n 0, 1) := by decide +kernel
theorem dX2_init_29 : decode cX2_init 29 = .ok (.iconst 0, 1) := by decide +kernel
theorem dX2_init_30 : decode cX2_init 30 = .ok (.putfield 26, 3) := by decide +kernel
theorem dX2_init_33 : decode cX2_init 33 = .ok (.aload_n 0, 1) := by decide +kernel
theorem dX2_init_34 : decode cX2_init 34 = .ok (.iconst 0, 1) := by decide +kernel
theorem dX2_init_35 : decode cX2_init 35 = .ok (.putfield 29, 3) := by decide +kernel
theorem dX2_init_38 : decode cX2_init 38 = .ok (.aload_n 0, 1) := by decide +kernel
theorem dX2_init_39 : decode cX2_init 39 = .ok (.iconst 0, 1) := by decide +kernel
theorem dX2_init_40 : decode cX2_init 40 = .ok (.putfield 32, 3) := by decide +kernel
theorem dX2_init_43 : decode cX2_init 43 = .ok (.return_, 1) := by decide +kernel
theorem dX2_takeLetter_0 : decode cX2_takeLetter 0 = .ok (.aload_n 0, 1) := by decide +kernel
theorem dX2_takeLetter_1 : decode cX2_takeLetter 1 = .ok (.getfield 9, 3) := by decide +kernel
theorem dX2_takeLetter_4 : decode cX2_takeLetter 4 = .ok (.bipush 70, 2) := by decide +kernel
theorem dX2_takeLetter_6 : decode cX2_takeLetter 6 = .ok (.if_icmp .lt 5, 3) := by decide +kernel
theorem dX2_takeLetter_9 : decode cX2_takeLetter 9 = .ok (.iconst 0, 1) := by decide +kernel
theorem dX2_takeLetter_10 : decode cX2_takeLetter 10 = .ok (.ireturn, 1) := by decide +kernel
theorem dX2_takeLetter_11 : decode cX2_takeLetter 11 = .ok (.aload_n 0, 1) := by decide +kernel
theorem dX2_takeLetter_12 : decode cX2_takeLetter 12 = .ok (.getfield 22, 3) := by decide +kernel
theorem dX2_takeLetter_15 : decode cX2_takeLetter 15 = .ok (.aload_n 0, 1) := by decide +kernel
theorem dX2_takeLetter_16 : decode cX2_takeLetter 16 = .ok (.getfield 9, 3) := by decide +kernel
theorem dX2_takeLetter_19 : decode cX2_takeLetter 19 = .ok (.iload_n 1, 1) := by decide +kernel
theorem dX2_takeLetter_20 : decode cX2_takeLetter 20 = .ok (.iastore, 1) := by decide +kernel
theorem dX2_takeLetter_21 : decode cX2_takeLetter 21 = .ok (.aload_n 0, 1) := by decide +kernel
theorem dX2_takeLetter_22 : decode cX2_takeLetter 22 = .ok (.dup, 1) := by decide +kernel
theorem dX2_takeLetter_23 : decode cX2_takeLetter 23 = .ok (.getfield 9, 3) := by decide +kernel
theorem dX2_takeLetter_26 : decode cX2_takeLetter 26 = .ok (.iconst 1, 1) := by decide +kernel
theorem dX2_takeLetter_27 : decode cX2_takeLetter 27 = .ok (.iadd, 1) := by decide +kernel
theorem dX2_takeLetter_28 : decode cX2_takeLetter 28 = .ok (.putfield 9, 3) := by decide +kernel
theorem dX2_takeLetter_31 : decode cX2_takeLetter 31 = .ok (.iconst 1, 1) := by decide +kernel
theorem dX2_takeLetter_32 : decode cX2_takeLetter 32 = .ok (.ireturn, 1) := by decide +kernel
theorem dX2_readMatrix_0 : decode cX2_readMatrix 0 = .ok (.aload_n 0, 1) := by decide +kernel
theorem dX2_readMatrix_1 : decode cX2_readMatrix 1 = .ok (.iload_n 1, 1) := by decide +kernel
theorem dX2_readMatrix_2 : decode cX2_readMatrix 2 = .ok (.putfield 29, 3) := by decide +kernel
theorem dX2_readMatrix_5 : decode cX2_readMatrix 5 = .ok (.aload_n 0, 1) := by decide +kernel
theorem dX2_readMatrix_6 : decode cX2_readMatrix 6 = .ok (.iconst 0, 1) := by decide +kernel
theorem dX2_readMatrix_7 : decode cX2_readMatrix 7 = .ok (.putfield 26, 3) := by decide +kernel
theorem dX2_readMatrix_10 : decode cX2_readMatrix 10 = .ok (.aload_n 0, 1) := by decide +kernel
theorem dX2_readMatrix_11 : decode cX2_readMatrix 11 = .ok (.invokevirtual 35, 3) := by decide +kernel
theorem dX2_readMatrix_14 : decode cX2_readMatrix 14 = .ok (.aload_n 0, 1) := by decide +kernel
theorem dX2_readMatrix_15 : decode cX2_readMatrix 15 = .ok (.getfield 18, 3) := by decide +kernel
theorem dX2_readMatrix_18 : decode cX2_readMatrix 18 = .ok (.aload_n 0, 1) := by decide +kernel
theorem dX2_readMatrix_19 : decode cX2_readMatrix 19 = .ok (.invokevirtual 38, 3) := by decide +kernel
theorem dX2_readMatrix_22 : decode cX2_readMatrix 22 = .ok (.invokestatic 42, 3) := by decide +kernel
theorem dX2_readMatrix_25 : decode cX2_readMatrix 25 = .ok (.putfield 46, 3) := by decide +kernel
theorem dX2_readMatrix_28 : decode cX2_readMatrix 28 = .ok (.aload_n 0, 1) := by decide +kernel
theorem dX2_readMatrix_29 : decode cX2_readMatrix 29 = .ok (.getfield 18, 3) := by decide +kernel
theorem dX2_readMatrix_32 : decode cX2_readMatrix 32 = .ok (.getfield 46, 3) := by decide +kernel
theorem dX2_readMatrix_35 : decode cX2_readMatrix 35 = .ok (.ifCond .ge 8, 3) := by decide +kernel
theorem dX2_readMatrix_38 : decode cX2_readMatrix 38 = .ok (.aload_n 0, 1) := by decide +kernel
theorem dX2_readMatrix_39 : decode cX2_readMatrix 39 = .ok (.invokevirtual 49, 3) := by decide +kernel
theorem dX2_readMatrix_42 : decode cX2_readMatrix 42 = .ok (.ireturn, 1) := by decide +kernel
theorem dX2_readMatrix_43 : decode cX2_readMatrix 43 = .ok (.aload_n 0, 1) := by decide +kernel
theorem dX2_readMatrix_44 : decode cX2_readMatrix 44 = .ok (.dup, 1) := by decide +kernel
theorem dX2_readMatrix_45 : decode cX2_readMatrix 45 = .ok (.getfield 26, 3) := by decide +kernel
theorem dX2_readMatrix_48 : decode cX2_readMatrix 48 = .ok (.iconst 1, 1) := by decide +kernel
theorem dX2_readMatrix_49 : decode cX2_readMatrix 49 = .ok (.iadd, 1) := by decide +kernel
theorem dX2_readMatrix_50 : decode cX2_readMatrix 50 = .ok (.putfield 26, 3) := by decide +kernel
theorem dX2_readMatrix_53 : decode cX2_readMatrix 53 = .ok (.aload_n 0, 1) := by decide +kernel
theorem dX2_readMatrix_54 : decode cX2_readMatrix 54 = .ok (.invokevirtual 52, 3) := by decide +kernel
theorem dX2_readMatrix_57 : decode cX2_readMatrix 57 = .ok (.istore_n 2, 1) := by decide +kernel
theorem dX2_readMatrix_58 : decode cX2_readMatrix 58 = .ok (.iload_n 2, 1) := by decide +kernel
theorem dX2_readMatrix_59 : decode cX2_readMatrix 59 = .ok (.ifCond .eq 5, 3) := by decide +kernel
theorem dX2_readMatrix_62 : decode cX2_readMatrix 62 = .ok (.iload_n 2, 1) := by decide +kernel
theorem dX2_readMatrix_63 : decode cX2_readMatrix 63 = .ok (.ireturn, 1) := by decide +kernel
theorem dX2_readMatrix_64 : decode cX2_readMatrix 64 = .ok (.aload_n 0, 1) := by decide +kernel
theorem dX2_readMatrix_65 : decode cX2_readMatrix 65 = .ok (.invokevirtual 55, 3) := by decide +kernel
theorem dX2_readMatrix_68 : decode cX2_readMatrix 68 = .ok (.aload_n 0, 1) := by decide +kernel
theorem dX2_readMatrix_69 : decode cX2_readMatrix 69 = .ok (.invokevirtual 38, 3) := by decide +kernel
theorem dX2_readMatrix_72 : decode cX2_readMatrix 72 = .ok (.bipush 61, 2) := by decide +kernel
theorem dX2_readMatrix_74 : decode cX2_readMatrix 74 = .ok (.if_icmp .ne 18, 3) := by decide +kernel
theorem dX2_readMatrix_77 : decode cX2_readMatrix 77 = .ok (.aload_n 0, 1) := by decide +kernel
theorem dX2_readMatrix_78 : decode cX2_readMatrix 78 = .ok (.dup, 1) := by decide +kernel
theorem dX2_readMatrix_79 : decode cX2_readMatrix 79 = .ok (.getfield 26, 3) := by decide +kernel
theorem dX2_readMatrix_82 : decode cX2_readMatrix 82 = .ok (.iconst 1, 1) := by decide +kernel
theorem dX2_readMatrix_83 : decode cX2_readMatrix 83 = .ok (.iadd, 1) := by decide +kernel
theorem dX2_readMatrix_84 : decode cX2_readMatrix 84 = .ok (.putfield 26, 3) := by decide +kernel
theorem dX2_readMatrix_87 : decode cX2_readMatrix 87 = .ok (.aload_n 0, 1) := by decide +kernel
theorem dX2_readMatrix_88 : decode cX2_readMatrix 88 = .ok (.invokevirtual 58, 3) := by decide +kernel
theorem dX2_readMatrix_91 : decode cX2_readMatrix 91 = .ok (.istore_n 2, 1) := by decide +kernel
theorem dX2_readMatrix_92 : decode cX2_readMatrix 92 = .ok (.iload_n 2, 1) := by decide +kernel
theorem dX2_readMatrix_93 : decode cX2_readMatrix 93 = .ok (.ifCond .ne 10, 3) := by decide +kernel
theorem dX2_readMatrix_96 : decode cX2_readMatrix 96 = .ok (.aload_n 0, 1) := by decide +kernel
theorem dX2_readMatrix_97 : decode cX2_readMatrix 97 = .ok (.invokevirtual 38, 3) := by decide +kernel
theorem dX2_readMatrix_100 : decode cX2_readMatrix 100 = .ok (.ifCond .ge 7, 3) := by decide +kernel
theorem dX2_readMatrix_103 : decode cX2_readMatrix 103 = .ok (.iload_n 2, 1) := by decide +kernel
theorem dX2_readMatrix_104 : decode cX2_readMatrix 104 = .ok (.goto 7, 3) := by decide +kernel
theorem dX2_readMatrix_107 : decode cX2_readMatrix 107 = .ok (.aload_n 0, 1) := by decide +kernel
theorem dX2_readMatrix_108 : decode cX2_readMatrix 108 = .ok (.invokevirtual 49, 3) := by decide +kernel
theorem dX2_readMatrix_111 : decode cX2_readMatrix 111 = .ok (.ireturn, 1) := by decide +kernel
theorem dX2_readRow_0 : decode cX2_readRow 0 = .ok (.iconst 0, 1) := by decide +kernel
theorem dX2_readRow_1 : decode cX2_readRow 1 = .ok (.istore_n 1, 1) := by decide +kernel
theorem dX2_readRow_2 : decode cX2_readRow 2 = .ok (.iconst 1, 1) := by decide +kernel
theorem dX2_readRow_3 : decode cX2_readRow 3 = .ok (.istore_n 2, 1) := by decide +kernel
theorem dX2_readRow_4 : decode cX2_readRow 4 = .ok (.iload_n 2, 1) := by decide +kernel
theorem dX2_readRow_5 : decode cX2_readRow 5 = .ok (.ifCond .eq 78, 3) := by decide +kernel
theorem dX2_readRow_8 : decode cX2_readRow 8 = .ok (.iload_n 1, 1) := by decide +kernel
theorem dX2_readRow_9 : decode cX2_readRow 9 = .ok (.bipush 11, 2) := by decide +kernel
theorem dX2_readRow_11 : decode cX2_readRow 11 = .ok (.if_icmp .ge 72, 3) := by decide +kernel
theorem dX2_readRow_14 : decode cX2_readRow 14 = .ok (.aload_n 0, 1) := by decide +kernel
theorem dX2_readRow_15 : decode cX2_readRow 15 = .ok (.invokevirtual 61, 3) := by decide +kernel
theorem dX2_readRow_18 : decode cX2_readRow 18 = .ok (.istore_n 3, 1) := by decide +kernel
theorem dX2_readRow_19 : decode cX2_readRow 19 = .ok (.iload_n 3, 1) := by decide +kernel
theorem dX2_readRow_20 : decode cX2_readRow 20 = .ok (.ifCond .eq 5, 3) := by decide +kernel
theorem dX2_readRow_23 : decode cX2_readRow 23 = .ok (.iload_n 3, 1) := by decide +kernel
theorem dX2_readRow_24 : decode cX2_readRow 24 = .ok (.ireturn, 1) := by decide +kernel
theorem dX2_readRow_25 : decode cX2_readRow 25 = .ok (.aload_n 0, 1) := by decide +kernel
theorem dX2_readRow_26 : decode cX2_readRow 26 = .ok (.getfield 18, 3) := by decide +kernel
theorem dX2_readRow_29 : decode cX2_readRow 29 = .ok (.getfield 64, 3) := by decide +kernel
theorem dX2_readRow_32 : decode cX2_readRow 32 = .ok (.iload_n 1, 1) := by decide +kernel
theorem dX2_readRow_33 : decode cX2_readRow 33 = .ok (.aload_n 0, 1) := by decide +kernel
theorem dX2_readRow_34 : decode cX2_readRow 34 = .ok (.getfield 32, 3) := by decide +kernel
theorem dX2_readRow_37 : decode cX2_readRow 37 = .ok (.iastore, 1) := by decide +kernel
theorem dX2_readRow_38 : decode cX2_readRow 38 = .ok (.iinc 1 1, 3) := by decide +kernel
theorem dX2_readRow_41 : decode cX2_readRow 41 = .ok (.aload_n 0, 1) := by decide +kernel
theorem dX2_readRow_42 : decode cX2_readRow 42 = .ok (.invokevirtual 38, 3) := by decide +kernel
theorem dX2_readRow_45 : decode cX2_readRow 45 = .ok (.bipush 44, 2) := by decide +kernel
theorem dX2_readRow_47 : decode cX2_readRow 47 = .ok (.if_icmp .ne 13, 3) := by decide +kernel
theorem dX2_readRow_50 : decode cX2_readRow 50 = .ok (.iload_n 1, 1) := by decide +kernel
theorem dX2_readRow_51 : decode cX2_readRow 51 = .ok (.bipush 11, 2) := by decide +kernel
theorem dX2_readRow_53 : decode cX2_readRow 53 = .ok (.if_icmp .ge 7, 3) := by decide +kernel
theorem dX2_readRow_56 : decode cX2_readRow 56 = .ok (.iconst 1, 1) := by decide +kernel
theorem dX2_readRow_57 : decode cX2_readRow 57 = .ok (.goto 4, 3) := by decide +kernel
theorem dX2_readRow_60 : decode cX2_readRow 60 = .ok (.iconst 0, 1) := by decide +kernel
theorem dX2_readRow_61 : decode cX2_readRow 61 = .ok (.istore_n 2, 1) := by decide +kernel
theorem dX2_readRow_62 : decode cX2_readRow 62 = .ok (.aload_n 0, 1) := by decide +kernel
theorem dX2_readRow_63 : decode cX2_readRow 63 = .ok (.dup, 1) := by decide +kernel
theorem dX2_readRow_64 : decode cX2_readRow 64 = .ok (.getfield 26, 3) := by decide +kernel
theorem dX2_readRow_67 : decode cX2_readRow 67 = .ok (.iload_n 2, 1) := by decide +kernel
theorem dX2_readRow_68 : decode cX2_readRow 68 = .ok (.ifCond .eq 7, 3) := by decide +kernel
theorem dX2_readRow_71 : decode cX2_readRow 71 = .ok (.iconst 1, 1) := by decide +kernel
theorem dX2_readRow_72 : decode cX2_readRow 72 = .ok (.goto 4, 3) := by decide +kernel
theorem dX2_readRow_75 : decode cX2_readRow 75 = .ok (.iconst 0, 1) := by decide +kernel
theorem dX2_readRow_76 : decode cX2_readRow 76 = .ok (.iadd, 1) := by decide +kernel
theorem dX2_readRow_77 : decode cX2_readRow 77 = .ok (.putfield 26, 3) := by decide +kernel
theorem dX2_readRow_80 : decode cX2_readRow 80 = .ok (.goto (-76), 3) := by decide +kernel
theorem dX2_readRow_83 : decode cX2_readRow 83 = .ok (.iload_n 1, 1) := by decide +kernel
theorem dX2_readRow_84 : decode cX2_readRow 84 = .ok (.iconst 2, 1) := by decide +kernel
theorem dX2_readRow_85 : decode cX2_readRow 85 = .ok (.irem, 1) := by decide +kernel
theorem dX2_readRow_86 : decode cX2_readRow 86 = .ok (.ifCond .ne 8, 3) := by decide +kernel
theorem dX2_readRow_89 : decode cX2_readRow 89 = .ok (.aload_n 0, 1) := by decide +kernel
theorem dX2_readRow_90 : decode cX2_readRow 90 = .ok (.invokevirtual 49, 3) := by decide +kernel
theorem dX2_readRow_93 : decode cX2_readRow 93 = .ok (.ireturn, 1) := by decide +kernel
theorem dX2_readRow_94 : decode cX2_readRow 94 = .ok (.aload_n 0, 1) := by decide +kernel
theorem dX2_readRow_95 : decode cX2_readRow 95 = .ok (.getfield 18, 3) := by decide +kernel
theorem dX2_readRow_98 : decode cX2_readRow 98 = .ok (.iload_n 1, 1) := by decide +kernel
theorem dX2_readRow_99 : decode cX2_readRow 99 = .ok (.iconst 1, 1) := by decide +kernel
theorem dX2_readRow_100 : decode cX2_readRow 100 = .ok (.iadd, 1) := by decide +kernel
theorem dX2_readRow_101 : decode cX2_readRow 101 = .ok (.iconst 2, 1) := by decide +kernel
theorem dX2_readRow_102 : decode cX2_readRow 102 = .ok (.idiv, 1) := by decide +kernel
theorem dX2_readRow_103 : decode cX2_readRow 103 = .ok (.putfield 67, 3) := by decide +kernel
theorem dX2_readRow_106 : decode cX2_readRow 106 = .ok (.iconst 0, 1) := by decide +kernel
theorem dX2_readRow_107 : decode cX2_readRow 107 = .ok (.ireturn, 1) := by decide +kernel
theorem dX2_readSide_0 : decode cX2_readSide 0 = .ok (.iconst 0, 1) := by decide +kernel
theorem dX2_readSide_1 : decode cX2_readSide 1 = .ok (.istore_n 1, 1) := by decide +kernel
theorem dX2_readSide_2 : decode cX2_readSide 2 = .ok (.iload_n 1, 1) := by decide +kernel
theorem dX2_readSide_3 : decode cX2_readSide 3 = .ok (.aload_n 0, 1) := by decide +kernel
theorem dX2_readSide_4 : decode cX2_readSide 4 = .ok (.getfield 18, 3) := by decide +kernel
theorem dX2_readSide_7 : decode cX2_readSide 7 = .ok (.getfield 67, 3) := by decide +kernel
theorem dX2_readSide_10 : decode cX2_readSide 10 = .ok (.if_icmp .ge 61, 3) := by decide +kernel
theorem dX2_readSide_13 : decode cX2_readSide 13 = .ok (.iload_n 1, 1) := by decide +kernel
theorem dX2_readSide_14 : decode cX2_readSide 14 = .ok (.ifCond .le 27, 3) := by decide +kernel
theorem dX2_readSide_17 : decode cX2_readSide 17 = .ok (.aload_n 0, 1) := by decide +kernel
theorem dX2_readSide_18 : decode cX2_readSide 18 = .ok (.invokevirtual 38, 3) := by decide +kernel
theorem dX2_readSide_21 : decode cX2_readSide 21 = .ok (.bipush 44, 2) := by decide +kernel
theorem dX2_readSide_23 : decode cX2_readSide 23 = .ok (.if_icmp .eq 8, 3) := by decide +kernel
theorem dX2_readSide_26 : decode cX2_readSide 26 = .ok (.aload_n 0, 1) := by decide +kernel
theorem dX2_readSide_27 : decode cX2_readSide 27 = .ok (.invokevirtual 49, 3) := by decide +kernel
theorem dX2_readSide_30 : decode cX2_readSide 30 = .ok (.ireturn, 1) := by decide +kernel
theorem dX2_readSide_31 : decode cX2_readSide 31 = .ok (.aload_n 0, 1) := by decide +kernel
theorem dX2_readSide_32 : decode cX2_readSide 32 = .ok (.dup, 1) := by decide +kernel
theorem dX2_readSide_33 : decode cX2_readSide 33 = .ok (.getfield 26, 3) := by decide +kernel
theorem dX2_readSide_36 : decode cX2_readSide 36 = .ok (.iconst 1, 1) := by decide +kernel
theorem dX2_readSide_37 : decode cX2_readSide 37 = .ok (.iadd, 1) := by decide +kernel
theorem dX2_readSide_38 : decode cX2_readSide 38 = .ok (.putfield 26, 3) := by decide +kernel
theorem dX2_readSide_41 : decode cX2_readSide 41 = .ok (.aload_n 0, 1) := by decide +kernel
theorem dX2_readSide_42 : decode cX2_readSide 42 = .ok (.invokevirtual 61, 3) := by decide +kernel
theorem dX2_readSide_45 : decode cX2_readSide 45 = .ok (.istore_n 2, 1) := by decide +kernel
theorem dX2_readSide_46 : decode cX2_readSide 46 = .ok (.iload_n 2, 1) := by decide +kernel
theorem dX2_readSide_47 : decode cX2_readSide 47 = .ok (.ifCond .eq 5, 3) := by decide +kernel
theorem dX2_readSide_50 : decode cX2_readSide 50 = .ok (.iload_n 2, 1) := by decide +kernel
theorem dX2_readSide_51 : decode cX2_readSide 51 = .ok (.ireturn, 1) := by decide +kernel
theorem dX2_readSide_52 : decode cX2_readSide 52 = .ok (.aload_n 0, 1) := by decide +kernel
theorem dX2_readSide_53 : decode cX2_readSide 53 = .ok (.getfield 18, 3) := by decide +kernel
theorem dX2_readSide_56 : decode cX2_readSide 56 = .ok (.getfield 70, 3) := by decide +kernel
theorem dX2_readSide_59 : decode cX2_readSide 59 = .ok (.iload_n 1, 1) := by decide +kernel
theorem dX2_readSide_60 : decode cX2_readSide 60 = .ok (.aload_n 0, 1) := by decide +kernel
theorem dX2_readSide_61 : decode cX2_readSide 61 = .ok (.getfield 32, 3) := by decide +kernel
theorem dX2_readSide_64 : decode cX2_readSide 64 = .ok (.iastore, 1) := by decide +kernel
theorem dX2_readSide_65 : decode cX2_readSide 65 = .ok (.iinc 1 1, 3) := by decide +kernel
theorem dX2_readSide_68 : decode cX2_readSide 68 = .ok (.goto (-66), 3) := by decide +kernel
theorem dX2_readSide_71 : decode cX2_readSide 71 = .ok (.iconst 0, 1) := by decide +kernel
theorem dX2_readSide_72 : decode cX2_readSide 72 = .ok (.ireturn, 1) := by decide +kernel
theorem dX2_clearSide_0 : decode cX2_clearSide 0 = .ok (.iconst 0, 1) := by decide +kernel
theorem dX2_clearSide_1 : decode cX2_clearSide 1 = .ok (.istore_n 1, 1) := by decide +kernel
theorem dX2_clearSide_2 : decode cX2_clearSide 2 = .ok (.iload_n 1, 1) := by decide +kernel
theorem dX2_clearSide_3 : decode cX2_clearSide 3 = .ok (.bipush 6, 2) := by decide +kernel
theorem dX2_clearSide_5 : decode cX2_clearSide 5 = .ok (.if_icmp .ge 19, 3) := by decide +kernel
theorem dX2_clearSide_8 : decode cX2_clearSide 8 = .ok (.aload_n 0, 1) := by decide +kernel
theorem dX2_clearSide_9 : decode cX2_clearSide 9 = .ok (.getfield 18, 3) := by decide +kernel
theorem dX2_clearSide_12 : decode cX2_clearSide 12 = .ok (.getfield 70, 3) := by decide +kernel
theorem dX2_clearSide_15 : decode cX2_clearSide 15 = .ok (.iload_n 1, 1) := by decide +kernel
theorem dX2_clearSide_16 : decode cX2_clearSide 16 = .ok (.iconst 0, 1) := by decide +kernel
theorem dX2_clearSide_17 : decode cX2_clearSide 17 = .ok (.iastore, 1) := by decide +kernel
theorem dX2_clearSide_18 : decode cX2_clearSide 18 = .ok (.iinc 1 1, 3) := by decide +kernel
theorem dX2_clearSide_21 : decode cX2_clearSide 21 = .ok (.goto (-19), 3) := by decide +kernel
theorem dX2_clearSide_24 : decode cX2_clearSide 24 = .ok (.return_, 1) := by decide +kernel
theorem dX2_readNumber_0 : decode cX2_readNumber 0 = .ok (.aload_n 0, 1) := by decide +kernel
theorem dX2_readNumber_1 : decode cX2_readNumber 1 = .ok (.invokevirtual 35, 3) := by decide +kernel
theorem dX2_readNumber_4 : decode cX2_readNumber 4 = .ok (.aload_n 0, 1) := by decide +kernel
theorem dX2_readNumber_5 : decode cX2_readNumber 5 = .ok (.getfield 26, 3) := by decide +kernel
theorem dX2_readNumber_8 : decode cX2_readNumber 8 = .ok (.istore_n 1, 1) := by decide +kernel
theorem dX2_readNumber_9 : decode cX2_readNumber 9 = .ok (.aload_n 0, 1) := by decide +kernel
theorem dX2_readNumber_10 : decode cX2_readNumber 10 = .ok (.invokevirtual 73, 3) := by decide +kernel
theorem dX2_readNumber_13 : decode cX2_readNumber 13 = .ok (.ifCond .ne 8, 3) := by decide +kernel
theorem dX2_readNumber_16 : decode cX2_readNumber 16 = .ok (.aload_n 0, 1) := by decide +kernel
theorem dX2_readNumber_17 : decode cX2_readNumber 17 = .ok (.invokevirtual 49, 3) := by decide +kernel
theorem dX2_readNumber_20 : decode cX2_readNumber 20 = .ok (.ireturn, 1) := by decide +kernel
theorem dX2_readNumber_21 : decode cX2_readNumber 21 = .ok (.aload_n 0, 1) := by decide +kernel
theorem dX2_readNumber_22 : decode cX2_readNumber 22 = .ok (.iconst 0, 1) := by decide +kernel
theorem dX2_readNumber_23 : decode cX2_readNumber 23 = .ok (.putfield 32, 3) := by decide +kernel
theorem dX2_readNumber_26 : decode cX2_readNumber 26 = .ok (.iconst 0, 1) := by decide +kernel
theorem dX2_readNumber_27 : decode cX2_readNumber 27 = .ok (.istore_n 2, 1) := by decide +kernel
theorem dX2_readNumber_28 : decode cX2_readNumber 28 = .ok (.iload_n 2, 1) := by decide +kernel
theorem dX2_readNumber_29 : decode cX2_readNumber 29 = .ok (.iconst 2, 1) := by decide +kernel
theorem dX2_readNumber_30 : decode cX2_readNumber 30 = .ok (.if_icmp .ge 45, 3) := by decide +kernel
theorem dX2_readNumber_33 : decode cX2_readNumber 33 = .ok (.aload_n 0, 1) := by decide +kernel
theorem dX2_readNumber_34 : decode cX2_readNumber 34 = .ok (.invokevirtual 73, 3) := by decide +kernel
theorem dX2_readNumber_37 : decode cX2_readNumber 37 = .ok (.ifCond .eq 38, 3) := by decide +kernel
theorem dX2_readNumber_40 : decode cX2_readNumber 40 = .ok (.aload_n 0, 1) := by decide +kernel
theorem dX2_readNumber_41 : decode cX2_readNumber 41 = .ok (.bipush 10, 2) := by decide +kernel
theorem dX2_readNumber_43 : decode cX2_readNumber 43 = .ok (.aload_n 0, 1) := by decide +kernel
theorem dX2_readNumber_44 : decode cX2_readNumber 44 = .ok (.getfield 32, 3) := by decide +kernel
theorem dX2_readNumber_47 : decode cX2_readNumber 47 = .ok (.imul, 1) := by decide +kernel
theorem dX2_readNumber_48 : decode cX2_readNumber 48 = .ok (.aload_n 0, 1) := by decide +kernel
theorem dX2_readNumber_49 : decode cX2_readNumber 49 = .ok (.invokevirtual 38, 3) := by decide +kernel
theorem dX2_readNumber_52 : decode cX2_readNumber 52 = .ok (.iadd, 1) := by decide +kernel
theorem dX2_readNumber_53 : decode cX2_readNumber 53 = .ok (.bipush 48, 2) := by decide +kernel
theorem dX2_readNumber_55 : decode cX2_readNumber 55 = .ok (.isub, 1) := by decide +kernel
theorem dX2_readNumber_56 : decode cX2_readNumber 56 = .ok (.putfield 32, 3) := by decide +kernel
theorem dX2_readNumber_59 : decode cX2_readNumber 59 = .ok (.aload_n 0, 1) := by decide +kernel
theorem dX2_readNumber_60 : decode cX2_readNumber 60 = .ok (.dup, 1) := by decide +kernel
theorem dX2_readNumber_61 : decode cX2_readNumber 61 = .ok (.getfield 26, 3) := by decide +kernel
theorem dX2_readNumber_64 : decode cX2_readNumber 64 = .ok (.iconst 1, 1) := by decide +kernel
theorem dX2_readNumber_65 : decode cX2_readNumber 65 = .ok (.iadd, 1) := by decide +kernel
theorem dX2_readNumber_66 : decode cX2_readNumber 66 = .ok (.putfield 26, 3) := by decide +kernel
theorem dX2_readNumber_69 : decode cX2_readNumber 69 = .ok (.iinc 2 1, 3) := by decide +kernel
theorem dX2_readNumber_72 : decode cX2_readNumber 72 = .ok (.goto (-44), 3) := by decide +kernel
theorem dX2_readNumber_75 : decode cX2_readNumber 75 = .ok (.aload_n 0, 1) := by decide +kernel
theorem dX2_readNumber_76 : decode cX2_readNumber 76 = .ok (.getfield 32, 3) := by decide +kernel
theorem dX2_readNumber_79 : decode cX2_readNumber 79 = .ok (.aload_n 0, 1) := by decide +kernel
theorem dX2_readNumber_80 : decode cX2_readNumber 80 = .ok (.getfield 29, 3) := by decide +kernel
theorem dX2_readNumber_83 : decode cX2_readNumber 83 = .ok (.if_icmp .lt 8, 3) := by decide +kernel
theorem dX2_readNumber_86 : decode cX2_readNumber 86 = .ok (.bipush (-20), 2) := by decide +kernel
theorem dX2_readNumber_88 : decode cX2_readNumber 88 = .ok (.iload_n 1, 1) := by decide +kernel
theorem dX2_readNumber_89 : decode cX2_readNumber 89 = .ok (.isub, 1) := by decide +kernel
theorem dX2_readNumber_90 : decode cX2_readNumber 90 = .ok (.ireturn, 1) := by decide +kernel
theorem dX2_readNumber_91 : decode cX2_readNumber 91 = .ok (.aload_n 0, 1) := by decide +kernel
theorem dX2_readNumber_92 : decode cX2_readNumber 92 = .ok (.invokevirtual 73, 3) := by decide +kernel
theorem dX2_readNumber_95 : decode cX2_readNumber 95 = .ok (.ifCond .eq 8, 3) := by decide +kernel
theorem dX2_readNumber_98 : decode cX2_readNumber 98 = .ok (.aload_n 0, 1) := by decide +kernel
theorem dX2_readNumber_99 : decode cX2_readNumber 99 = .ok (.invokevirtual 49, 3) := by decide +kernel
theorem dX2_readNumber_102 : decode cX2_readNumber 102 = .ok (.ireturn, 1) := by decide +kernel
theorem dX2_readNumber_103 : decode cX2_readNumber 103 = .ok (.aload_n 0, 1) := by decide +kernel
theorem dX2_readNumber_104 : decode cX2_readNumber 104 = .ok (.invokevirtual 35, 3) := by decide +kernel
theorem dX2_readNumber_107 : decode cX2_readNumber 107 = .ok (.iconst 0, 1) := by decide +kernel
theorem dX2_readNumber_108 : decode cX2_readNumber 108 = .ok (.ireturn, 1) := by decide +kernel
theorem dX2_skipBlanks_0 : decode cX2_skipBlanks 0 = .ok (.aload_n 0, 1) := by decide +kernel
theorem dX2_skipBlanks_1 : decode cX2_skipBlanks 1 = .ok (.getfield 26, 3) := by decide +kernel
theorem dX2_skipBlanks_4 : decode cX2_skipBlanks 4 = .ok (.aload_n 0, 1) := by decide +kernel
theorem dX2_skipBlanks_5 : decode cX2_skipBlanks 5 = .ok (.getfield 9, 3) := by decide +kernel
theorem dX2_skipBlanks_8 : decode cX2_skipBlanks 8 = .ok (.if_icmp .ge 25, 3) := by decide +kernel
theorem dX2_skipBlanks_11 : decode cX2_skipBlanks 11 = .ok (.aload_n 0, 1) := by decide +kernel
theorem dX2_skipBlanks_12 : decode cX2_skipBlanks 12 = .ok (.invokevirtual 38, 3) := by decide +kernel
theorem dX2_skipBlanks_15 : decode cX2_skipBlanks 15 = .ok (.bipush 32, 2) := by decide +kernel
theorem dX2_skipBlanks_17 : decode cX2_skipBlanks 17 = .ok (.if_icmp .ne 16, 3) := by decide +kernel
theorem dX2_skipBlanks_20 : decode cX2_skipBlanks 20 = .ok (.aload_n 0, 1) := by decide +kernel
theorem dX2_skipBlanks_21 : decode cX2_skipBlanks 21 = .ok (.dup, 1) := by decide +kernel
theorem dX2_skipBlanks_22 : decode cX2_skipBlanks 22 = .ok (.getfield 26, 3) := by decide +kernel
theorem dX2_skipBlanks_25 : decode cX2_skipBlanks 25 = .ok (.iconst 1, 1) := by decide +kernel
theorem dX2_skipBlanks_26 : decode cX2_skipBlanks 26 = .ok (.iadd, 1) := by decide +kernel
theorem dX2_skipBlanks_27 : decode cX2_skipBlanks 27 = .ok (.putfield 26, 3) := by decide +kernel
theorem dX2_skipBlanks_30 : decode cX2_skipBlanks 30 = .ok (.goto (-30), 3) := by decide +kernel
theorem dX2_skipBlanks_33 : decode cX2_skipBlanks 33 = .ok (.return_, 1) := by decide +kernel
theorem dX2_isDigitHere_0 : decode cX2_isDigitHere 0 = .ok (.aload_n 0, 1) := by decide +kernel
theorem dX2_isDigitHere_1 : decode cX2_isDigitHere 1 = .ok (.invokevirtual 38, 3) := by decide +kernel
theorem dX2_isDigitHere_4 : decode cX2_isDigitHere 4 = .ok (.bipush 48, 2) := by decide +kernel
theorem dX2_isDigitHere_6 : decode cX2_isDigitHere 6 = .ok (.if_icmp .lt 16, 3) := by decide +kernel
theorem dX2_isDigitHere_9 : decode cX2_isDigitHere 9 = .ok (.aload_n 0, 1) := by decide +kernel
theorem dX2_isDigitHere_10 : decode cX2_isDigitHere 10 = .ok (.invokevirtual 38, 3) := by decide +kernel
theorem dX2_isDigitHere_13 : decode cX2_isDigitHere 13 = .ok (.bipush 57, 2) := by decide +kernel
theorem dX2_isDigitHere_15 : decode cX2_isDigitHere 15 = .ok (.if_icmp .gt 7, 3) := by decide +kernel
theorem dX2_isDigitHere_18 : decode cX2_isDigitHere 18 = .ok (.iconst 1, 1) := by decide +kernel
theorem dX2_isDigitHere_19 : decode cX2_isDigitHere 19 = .ok (.goto 4, 3) := by decide +kernel
theorem dX2_isDigitHere_22 : decode cX2_isDigitHere 22 = .ok (.iconst 0, 1) := by decide +kernel
theorem dX2_isDigitHere_23 : decode cX2_isDigitHere 23 = .ok (.ireturn, 1) := by decide +kernel
theorem dX2_letterHere_0 : decode cX2_letterHere 0 = .ok (.aload_n 0, 1) := by decide +kernel
theorem dX2_letterHere_1 : decode cX2_letterHere 1 = .ok (.getfield 26, 3) := by decide +kernel
theorem dX2_letterHere_4 : decode cX2_letterHere 4 = .ok (.ifCond .lt 26, 3) := by decide +kernel
theorem dX2_letterHere_7 : decode cX2_letterHere 7 = .ok (.aload_n 0, 1) := by decide +kernel
theorem dX2_letterHere_8 : decode cX2_letterHere 8 = .ok (.getfield 26, 3) := by decide +kernel
theorem dX2_letterHere_11 : decode cX2_letterHere 11 = .ok (.aload_n 0, 1) := by decide +kernel
theorem dX2_letterHere_12 : decode cX2_letterHere 12 = .ok (.getfield 9, 3) := by decide +kernel
theorem dX2_letterHere_15 : decode cX2_letterHere 15 = .ok (.if_icmp .ge 15, 3) := by decide +kernel
theorem dX2_letterHere_18 : decode cX2_letterHere 18 = .ok (.aload_n 0, 1) := by decide +kernel
theorem dX2_letterHere_19 : decode cX2_letterHere 19 = .ok (.getfield 22, 3) := by decide +kernel
theorem dX2_letterHere_22 : decode cX2_letterHere 22 = .ok (.aload_n 0, 1) := by decide +kernel
theorem dX2_letterHere_23 : decode cX2_letterHere 23 = .ok (.getfield 26, 3) := by decide +kernel
theorem dX2_letterHere_26 : decode cX2_letterHere 26 = .ok (.iaload, 1) := by decide +kernel
theorem dX2_letterHere_27 : decode cX2_letterHere 27 = .ok (.goto 4, 3) := by decide +kernel
theorem dX2_letterHere_30 : decode cX2_letterHere 30 = .ok (.iconst (-1), 1) := by decide +kernel
theorem dX2_letterHere_31 : decode cX2_letterHere 31 = .ok (.ireturn, 1) := by decide +kernel
theorem dX2_faultHere_0 : decode cX2_faultHere 0 = .ok (.bipush (-20), 2) := by decide +kernel
theorem dX2_faultHere_2 : decode cX2_faultHere 2 = .ok (.aload_n 0, 1) := by decide +kernel
theorem dX2_faultHere_3 : decode cX2_faultHere 3 = .ok (.getfield 26, 3) := by decide +kernel
theorem dX2_faultHere_6 : decode cX2_faultHere 6 = .ok (.isub, 1) := by decide +kernel
theorem dX2_faultHere_7 : decode cX2_faultHere 7 = .ok (.ireturn, 1) := by decide +kernel
theorem dX2_kindOf_0 : decode cX2_kindOf 0 = .ok (.iload_n 0, 1) := by decide +kernel
theorem dX2_kindOf_1 : decode cX2_kindOf 1 = .ok (.lookupswitch 61 #[(98, 53), (101, 55), (110, 59), (114, 57), (115, 51)], 51) := by decide +kernel
theorem dX2_kindOf_52 : decode cX2_kindOf 52 = .ok (.iconst 0, 1) := by decide +kernel
theorem dX2_kindOf_53 : decode cX2_kindOf 53 = .ok (.ireturn, 1) := by decide +kernel
theorem dX2_kindOf_54 : decode cX2_kindOf 54 = .ok (.iconst 1, 1) := by decide +kernel
theorem dX2_kindOf_55 : decode cX2_kindOf 55 = .ok (.ireturn, 1) := by decide +kernel
theorem dX2_kindOf_56 : decode cX2_kindOf 56 = .ok (.iconst 2, 1) := by decide +kernel
theorem dX2_kindOf_57 : decode cX2_kindOf 57 = .ok (.ireturn, 1) := by decide +kernel
theorem dX2_kindOf_58 : decode cX2_kindOf 58 = .ok (.iconst 3, 1) := by decide +kernel
theorem dX2_kindOf_59 : decode cX2_kindOf 59 = .ok (.ireturn, 1) := by decide +kernel
theorem dX2_kindOf_60 : decode cX2_kindOf 60 = .ok (.iconst 4, 1) := by decide +kernel
theorem dX2_kindOf_61 : decode cX2_kindOf 61 = .ok (.ireturn, 1) := by decide +kernel
theorem dX2_kindOf_62 : decode cX2_kindOf 62 = .ok (.iconst (-1), 1) := by decide +kernel
theorem dX2_kindOf_63 : decode cX2_kindOf 63 = .ok (.ireturn, 1) := by decide +kernel
theorem dX3_init_0 : decode cX3_init 0 = .ok (.aload_n 0, 1) := by decide +kernel
theorem dX3_init_1 : decode cX3_init 1 = .ok (.invokespecial 3, 3) := by decide +kernel
theorem dX3_init_4 : decode cX3_init 4 = .ok (.aload_n 0, 1) := by decide +kernel
theorem dX3_init_5 : decode cX3_init 5 = .ok (.iconst 1, 1) := by decide +kernel
theorem dX3_init_6 : decode cX3_init 6 = .ok (.putfield 9, 3) := by decide +kernel
theorem dX3_init_9 : decode cX3_init 9 = .ok (.aload_n 0, 1) := by decide +kernel
theorem dX3_init_10 : decode cX3_init 10 = .ok (.iconst 0, 1) := by decide +kernel
theorem dX3_init_11 : decode cX3_init 11 = .ok (.putfield 15, 3) := by decide +kernel
theorem dX3_init_14 : decode cX3_init 14 = .ok (.aload_n 0, 1) := by decide +kernel
theorem dX3_init_15 : decode cX3_init 15 = .ok (.iconst 1, 1) := by decide +kernel
theorem dX3_init_16 : decode cX3_init 16 = .ok (.putfield 18, 3) := by decide +kernel
theorem dX3_init_19 : decode cX3_init 19 = .ok (.aload_n 0, 1) := by decide +kernel
theorem dX3_init_20 : decode cX3_init 20 = .ok (.bipush 11, 2) := by decide +kernel
theorem dX3_init_22 : decode cX3_init 22 = .ok (.newarray .int, 2) := by decide +kernel
theorem dX3_init_24 : decode cX3_init 24 = .ok (.putfield 21, 3) := by decide +kernel
theorem dX3_init_27 : decode cX3_init 27 = .ok (.aload_n 0, 1) := by decide +kernel
theorem dX3_init_28 : decode cX3_init 28 = .ok (.bipush 6, 2) := by decide +kernel
theorem dX3_init_30 : decode cX3_init 30 = .ok (.newarray .int, 2) := by decide +kernel
theorem dX3_init_32 : decode cX3_init 32 = .ok (.putfield 25, 3) := by decide +kernel
theorem dX3_init_35 : decode cX3_init 35 = .ok (.return_, 1) := by decide +kernel
theorem dX3_rowLength_0 : decode cX3_rowLength 0 = .ok (.iconst 2, 1) := by decide +kernel
theorem dX3_rowLength_1 : decode cX3_rowLength 1 = .ok (.aload_n 0, 1) := by decide +kernel
theorem dX3_rowLength_2 : decode cX3_rowLength 2 = .ok (.getfield 9, 3) := by decide +kernel
theorem dX3_rowLength_5 : decode cX3_rowLength 5 = .ok (.imul, 1) := by decide +kernel
theorem dX3_rowLength_6 : decode cX3_rowLength 6 = .ok (.iconst 1, 1) := by decide +kernel
theorem dX3_rowLength_7 : decode cX3_rowLength 7 = .ok (.isub, 1) := by decide +kernel
theorem dX3_rowLength_8 : decode cX3_rowLength 8 = .ok (.ireturn, 1) := by decide +kernel
theorem dX3_takeFrom_0 : decode cX3_takeFrom 0 = .ok (.aload_n 0, 1) := by decide +kernel
theorem dX3_takeFrom_1 : decode cX3_takeFrom 1 = .ok (.aload_n 1, 1) := by decide +kernel
theorem dX3_takeFrom_2 : decode cX3_takeFrom 2 = .ok (.getfield 9, 3) := by decide +kernel
theorem dX3_takeFrom_5 : decode cX3_takeFrom 5 = .ok (.putfield 9, 3) := by decide +kernel
theorem dX3_takeFrom_8 : decode cX3_takeFrom 8 = .ok (.aload_n 0, 1) := by decide +kernel
theorem dX3_takeFrom_9 : decode cX3_takeFrom 9 = .ok (.aload_n 1, 1) := by decide +kernel
theorem dX3_takeFrom_10 : decode cX3_takeFrom 10 = .ok (.getfield 15, 3) := by decide +kernel
theorem dX3_takeFrom_13 : decode cX3_takeFrom 13 = .ok (.putfield 15, 3) := by decide +kernel
theorem dX3_takeFrom_16 : decode cX3_takeFrom 16 = .ok (.aload_n 0, 1) := by decide +kernel
theorem dX3_takeFrom_17 : decode cX3_takeFrom 17 = .ok (.aload_n 1, 1) := by decide +kernel
theorem dX3_takeFrom_18 : decode cX3_takeFrom 18 = .ok (.getfield 18, 3) := by decide +kernel
theorem dX3_takeFrom_21 : decode cX3_takeFrom 21 = .ok (.putfield 18, 3) := by decide +kernel
theorem dX3_takeFrom_24 : decode cX3_takeFrom 24 = .ok (.aload_n 1, 1) := by decide +kernel
theorem dX3_takeFrom_25 : decode cX3_takeFrom 25 = .ok (.getfield 21, 3) := by decide +kernel
theorem dX3_takeFrom_28 : decode cX3_takeFrom 28 = .ok (.iconst 0, 1) := by decide +kernel
theorem dX3_takeFrom_29 : decode cX3_takeFrom 29 = .ok (.aload_n 0, 1) := by decide +kernel
theorem dX3_takeFrom_30 : decode cX3_takeFrom 30 = .ok (.getfield 21, 3) := by decide +kernel
theorem dX3_takeFrom_33 : decode cX3_takeFrom 33 = .ok (.iconst 0, 1) := by decide +kernel
theorem dX3_takeFrom_34 : decode cX3_takeFrom 34 = .ok (.bipush 11, 2) := by decide +kernel
theorem dX3_takeFrom_36 : decode cX3_takeFrom 36 = .ok (.invokestatic 28, 3) := by decide +kernel
theorem dX3_takeFrom_39 : decode cX3_takeFrom 39 = .ok (.aload_n 1, 1) := by decide +kernel
theorem dX3_takeFrom_40 : decode cX3_takeFrom 40 = .ok (.getfield 25, 3) := by decide +kernel
theorem dX3_takeFrom_43 : decode cX3_takeFrom 43 = .ok (.iconst 0, 1) := by decide +kernel
theorem dX3_takeFrom_44 : decode cX3_takeFrom 44 = .ok (.aload_n 0, 1) := by decide +kernel
theorem dX3_takeFrom_45 : decode cX3_takeFrom 45 = .ok (.getfield 25, 3) := by decide +kernel
theorem dX3_takeFrom_48 : decode cX3_takeFrom 48 = .ok (.iconst 0, 1) := by decide +kernel
theorem dX3_takeFrom_49 : decode cX3_takeFrom 49 = .ok (.bipush 6, 2) := by decide +kernel
theorem dX3_takeFrom_51 : decode cX3_takeFrom 51 = .ok (.invokestatic 28, 3) := by decide +kernel
theorem dX3_takeFrom_54 : decode cX3_takeFrom 54 = .ok (.return_, 1) := by decide +kernel
theorem dX3_cellAt_0 : decode cX3_cellAt 0 = .ok (.aload_n 0, 1) := by decide +kernel
theorem dX3_cellAt_1 : decode cX3_cellAt 1 = .ok (.getfield 21, 3) := by decide +kernel
theorem dX3_cellAt_4 : decode cX3_cellAt 4 = .ok (.aload_n 0, 1) := by decide +kernel
theorem dX3_cellAt_5 : decode cX3_cellAt 5 = .ok (.iload_n 1, 1) := by decide +kernel
theorem dX3_cellAt_6 : decode cX3_cellAt 6 = .ok (.iload_n 2, 1) := by decide +kernel
theorem dX3_cellAt_7 : decode cX3_cellAt 7 = .ok (.iload_n 3, 1) := by decide +kernel
theorem dX3_cellAt_8 : decode cX3_cellAt 8 = .ok (.invokevirtual 34, 3) := by decide +kernel
theorem dX3_cellAt_11 : decode cX3_cellAt 11 = .ok (.iaload, 1) := by decide +kernel
theorem dX3_cellAt_12 : decode cX3_cellAt 12 = .ok (.istore 5, 2) := by decide +kernel
theorem dX3_cellAt_14 : decode cX3_cellAt 14 = .ok (.iload_n 1, 1) := by decide +kernel
theorem dX3_cellAt_15 : decode cX3_cellAt 15 = .ok (.iconst 4, 1) := by decide +kernel
theorem dX3_cellAt_16 : decode cX3_cellAt 16 = .ok (.if_icmp .ne 21, 3) := by decide +kernel
theorem dX3_cellAt_19 : decode cX3_cellAt 19 = .ok (.iload_n 2, 1) := by decide +kernel
theorem dX3_cellAt_20 : decode cX3_cellAt 20 = .ok (.iload_n 3, 1) := by decide +kernel
theorem dX3_cellAt_21 : decode cX3_cellAt 21 = .ok (.if_icmp .ge 16, 3) := by decide +kernel
theorem dX3_cellAt_24 : decode cX3_cellAt 24 = .ok (.iload 5, 2) := by decide +kernel
theorem dX3_cellAt_26 : decode cX3_cellAt 26 = .ok (.ifCond .eq 11, 3) := by decide +kernel
theorem dX3_cellAt_29 : decode cX3_cellAt 29 = .ok (.iload 4, 2) := by decide +kernel
theorem dX3_cellAt_31 : decode cX3_cellAt 31 = .ok (.iload 5, 2) := by decide +kernel
theorem dX3_cellAt_33 : decode cX3_cellAt 33 = .ok (.isub, 1) := by decide +kernel
theorem dX3_cellAt_34 : decode cX3_cellAt 34 = .ok (.goto 5, 3) := by decide +kernel
theorem dX3_cellAt_37 : decode cX3_cellAt 37 = .ok (.iload 5, 2) := by decide +kernel
theorem dX3_cellAt_39 : decode cX3_cellAt 39 = .ok (.ireturn, 1) := by decide +kernel
theorem dX3_placeAt_0 : decode cX3_placeAt 0 = .ok (.aload_n 0, 1) := by decide +kernel
theorem dX3_placeAt_1 : decode cX3_placeAt 1 = .ok (.getfield 9, 3) := by decide +kernel
theorem dX3_placeAt_4 : decode cX3_placeAt 4 = .ok (.iconst 1, 1) := by decide +kernel
theorem dX3_placeAt_5 : decode cX3_placeAt 5 = .ok (.isub, 1) := by decide +kernel
theorem dX3_placeAt_6 : decode cX3_placeAt 6 = .ok (.istore 4, 2) := by decide +kernel
theorem dX3_placeAt_8 : decode cX3_placeAt 8 = .ok (.iload_n 1, 1) := by decide +kernel
theorem dX3_placeAt_9 : decode cX3_placeAt 9 = .ok (.tableswitch 78 1 4 #[31, 45, 55, 45], 31) := by decide +kernel
theorem dX3_placeAt_40 : decode cX3_placeAt 40 = .ok (.iload 4, 2) := by decide +kernel
theorem dX3_placeAt_42 : decode cX3_placeAt 42 = .ok (.iload_n 2, 1) := by decide +kernel
theorem dX3_placeAt_43 : decode cX3_placeAt 43 = .ok (.iadd, 1) := by decide +kernel
theorem dX3_placeAt_44 : decode cX3_placeAt 44 = .ok (.aload_n 0, 1) := by decide +kernel
theorem dX3_placeAt_45 : decode cX3_placeAt 45 = .ok (.getfield 9, 3) := by decide +kernel
theorem dX3_placeAt_48 : decode cX3_placeAt 48 = .ok (.iconst 1, 1) := by decide +kernel
theorem dX3_placeAt_49 : decode cX3_placeAt 49 = .ok (.isub, 1) := by decide +kernel
theorem dX3_placeAt_50 : decode cX3_placeAt 50 = .ok (.iload_n 3, 1) := by decide +kernel
theorem dX3_placeAt_51 : decode cX3_placeAt 51 = .ok (.isub, 1) := by decide +kernel
theorem dX3_placeAt_52 : decode cX3_placeAt 52 = .ok (.isub, 1) := by decide +kernel
theorem dX3_placeAt_53 : decode cX3_placeAt 53 = .ok (.ireturn, 1) := by decide +kernel
theorem dX3_placeAt_54 : decode cX3_placeAt 54 = .ok (.iload 4, 2) := by decide +kernel
theorem dX3_placeAt_56 : decode cX3_placeAt 56 = .ok (.iload_n 2, 1) := by decide +kernel
theorem dX3_placeAt_57 : decode cX3_placeAt 57 = .ok (.iload_n 3, 1) := by decide +kernel
theorem dX3_placeAt_58 : decode cX3_placeAt 58 = .ok (.isub, 1) := by decide +kernel
theorem dX3_placeAt_59 : decode cX3_placeAt 59 = .ok (.invokestatic 38, 3) := by decide +kernel
theorem dX3_placeAt_62 : decode cX3_placeAt 62 = .ok (.iadd, 1) := by decide +kernel
theorem dX3_placeAt_63 : decode cX3_placeAt 63 = .ok (.ireturn, 1) := by decide +kernel
theorem dX3_placeAt_64 : decode cX3_placeAt 64 = .ok (.iload 4, 2) := by decide +kernel
theorem dX3_placeAt_66 : decode cX3_placeAt 66 = .ok (.iload_n 2, 1) := by decide +kernel
theorem dX3_placeAt_67 : decode cX3_placeAt 67 = .ok (.iload_n 3, 1) := by decide +kernel
theorem dX3_placeAt_68 : decode cX3_placeAt 68 = .ok (.if_icmp .ge 14, 3) := by decide +kernel
theorem dX3_placeAt_71 : decode cX3_placeAt 71 = .ok (.iload_n 2, 1) := by decide +kernel
theorem dX3_placeAt_72 : decode cX3_placeAt 72 = .ok (.iload_n 3, 1) := by decide +kernel
theorem dX3_placeAt_73 : decode cX3_placeAt 73 = .ok (.isub, 1) := by decide +kernel
theorem dX3_placeAt_74 : decode cX3_placeAt 74 = .ok (.aload_n 0, 1) := by decide +kernel
theorem dX3_placeAt_75 : decode cX3_placeAt 75 = .ok (.getfield 9, 3) := by decide +kernel
theorem dX3_placeAt_78 : decode cX3_placeAt 78 = .ok (.iadd, 1) := by decide +kernel
theorem dX3_placeAt_79 : decode cX3_placeAt 79 = .ok (.goto 6, 3) := by decide +kernel
theorem dX3_placeAt_82 : decode cX3_placeAt 82 = .ok (.iload_n 2, 1) := by decide +kernel
theorem dX3_placeAt_83 : decode cX3_placeAt 83 = .ok (.iload_n 3, 1) := by decide +kernel
theorem dX3_placeAt_84 : decode cX3_placeAt 84 = .ok (.isub, 1) := by decide +kernel
theorem dX3_placeAt_85 : decode cX3_placeAt 85 = .ok (.iadd, 1) := by decide +kernel
theorem dX3_placeAt_86 : decode cX3_placeAt 86 = .ok (.ireturn, 1) := by decide +kernel
theorem dX3_placeAt_87 : decode cX3_placeAt 87 = .ok (.iload 4, 2) := by decide +kernel
theorem dX3_placeAt_89 : decode cX3_placeAt 89 = .ok (.iload_n 2, 1) := by decide +kernel
theorem dX3_placeAt_90 : decode cX3_placeAt 90 = .ok (.iadd, 1) := by decide +kernel
theorem dX3_placeAt_91 : decode cX3_placeAt 91 = .ok (.iload_n 3, 1) := by decide +kernel
theorem dX3_placeAt_92 : decode cX3_placeAt 92 = .ok (.isub, 1) := by decide +kernel
theorem dX3_placeAt_93 : decode cX3_placeAt 93 = .ok (.ireturn, 1) := by decide +kernel
theorem dX3_leaveOver_0 : decode cX3_leaveOver 0 = .ok (.iconst 0, 1) := by decide +kernel
theorem dX3_leaveOver_1 : decode cX3_leaveOver 1 = .ok (.istore_n 2, 1) := by decide +kernel
theorem dX3_leaveOver_2 : decode cX3_leaveOver 2 = .ok (.iload_n 2, 1) := by decide +kernel
theorem dX3_leaveOver_3 : decode cX3_leaveOver 3 = .ok (.aload_n 0, 1) := by decide +kernel
theorem dX3_leaveOver_4 : decode cX3_leaveOver 4 = .ok (.invokevirtual 44, 3) := by decide +kernel
theorem dX3_leaveOver_7 : decode cX3_leaveOver 7 = .ok (.if_icmp .ge 19, 3) := by decide +kernel
theorem dX3_leaveOver_10 : decode cX3_leaveOver 10 = .ok (.aload_n 0, 1) := by decide +kernel
theorem dX3_leaveOver_11 : decode cX3_leaveOver 11 = .ok (.getfield 21, 3) := by decide +kernel
theorem dX3_leaveOver_14 : decode cX3_leaveOver 14 = .ok (.iload_n 2, 1) := by decide +kernel
theorem dX3_leaveOver_15 : decode cX3_leaveOver 15 = .ok (.dup2, 1) := by decide +kernel
theorem dX3_leaveOver_16 : decode cX3_leaveOver 16 = .ok (.iaload, 1) := by decide +kernel
theorem dX3_leaveOver_17 : decode cX3_leaveOver 17 = .ok (.iload_n 1, 1) := by decide +kernel
theorem dX3_leaveOver_18 : decode cX3_leaveOver 18 = .ok (.irem, 1) := by decide +kernel
theorem dX3_leaveOver_19 : decode cX3_leaveOver 19 = .ok (.iastore, 1) := by decide +kernel
theorem dX3_leaveOver_20 : decode cX3_leaveOver 20 = .ok (.iinc 2 1, 3) := by decide +kernel
theorem dX3_leaveOver_23 : decode cX3_leaveOver 23 = .ok (.goto (-21), 3) := by decide +kernel
theorem dX3_leaveOver_26 : decode cX3_leaveOver 26 = .ok (.iconst 0, 1) := by decide +kernel
theorem dX3_leaveOver_27 : decode cX3_leaveOver 27 = .ok (.istore_n 2, 1) := by decide +kernel
theorem dX3_leaveOver_28 : decode cX3_leaveOver 28 = .ok (.iload_n 2, 1) := by decide +kernel
theorem dX3_leaveOver_29 : decode cX3_leaveOver 29 = .ok (.aload_n 0, 1) := by decide +kernel
theorem dX3_leaveOver_30 : decode cX3_leaveOver 30 = .ok (.getfield 9, 3) := by decide +kernel
theorem dX3_leaveOver_33 : decode cX3_leaveOver 33 = .ok (.if_icmp .ge 19, 3) := by decide +kernel
theorem dX3_leaveOver_36 : decode cX3_leaveOver 36 = .ok (.aload_n 0, 1) := by decide +kernel
theorem dX3_leaveOver_37 : decode cX3_leaveOver 37 = .ok (.getfield 25, 3) := by decide +kernel
theorem dX3_leaveOver_40 : decode cX3_leaveOver 40 = .ok (.iload_n 2, 1) := by decide +kernel
theorem dX3_leaveOver_41 : decode cX3_leaveOver 41 = .ok (.dup2, 1) := by decide +kernel
theorem dX3_leaveOver_42 : decode cX3_leaveOver 42 = .ok (.iaload, 1) := by decide +kernel
theorem dX3_leaveOver_43 : decode cX3_leaveOver 43 = .ok (.iload_n 1, 1) := by decide +kernel
theorem dX3_leaveOver_44 : decode cX3_leaveOver 44 = .ok (.irem, 1) := by decide +kernel
theorem dX3_leaveOver_45 : decode cX3_leaveOver 45 = .ok (.iastore, 1) := by decide +kernel
theorem dX3_leaveOver_46 : decode cX3_leaveOver 46 = .ok (.iinc 2 1, 3) := by decide +kernel
theorem dX3_leaveOver_49 : decode cX3_leaveOver 49 = .ok (.goto (-21), 3) := by decide +kernel
theorem dX3_leaveOver_52 : decode cX3_leaveOver 52 = .ok (.return_, 1) := by decide +kernel
theorem dX3_addBorder_0 : decode cX3_addBorder 0 = .ok (.aload_n 0, 1) := by decide +kernel
theorem dX3_addBorder_1 : decode cX3_addBorder 1 = .ok (.invokevirtual 44, 3) := by decide +kernel
theorem dX3_addBorder_4 : decode cX3_addBorder 4 = .ok (.istore_n 1, 1) := by decide +kernel
theorem dX3_addBorder_5 : decode cX3_addBorder 5 = .ok (.aload_n 0, 1) := by decide +kernel
theorem dX3_addBorder_6 : decode cX3_addBorder 6 = .ok (.getfield 21, 3) := by decide +kernel
theorem dX3_addBorder_9 : decode cX3_addBorder 9 = .ok (.iconst 0, 1) := by decide +kernel
theorem dX3_addBorder_10 : decode cX3_addBorder 10 = .ok (.aload_n 0, 1) := by decide +kernel
theorem dX3_addBorder_11 : decode cX3_addBorder 11 = .ok (.getfield 21, 3) := by decide +kernel
theorem dX3_addBorder_14 : decode cX3_addBorder 14 = .ok (.iconst 1, 1) := by decide +kernel
theorem dX3_addBorder_15 : decode cX3_addBorder 15 = .ok (.iload_n 1, 1) := by decide +kernel
theorem dX3_addBorder_16 : decode cX3_addBorder 16 = .ok (.invokestatic 28, 3) := by decide +kernel
theorem dX3_addBorder_19 : decode cX3_addBorder 19 = .ok (.aload_n 0, 1) := by decide +kernel
theorem dX3_addBorder_20 : decode cX3_addBorder 20 = .ok (.getfield 21, 3) := by decide +kernel
theorem dX3_addBorder_23 : decode cX3_addBorder 23 = .ok (.iconst 0, 1) := by decide +kernel
theorem dX3_addBorder_24 : decode cX3_addBorder 24 = .ok (.iconst 0, 1) := by decide +kernel
theorem dX3_addBorder_25 : decode cX3_addBorder 25 = .ok (.iastore, 1) := by decide +kernel
theorem dX3_addBorder_26 : decode cX3_addBorder 26 = .ok (.aload_n 0, 1) := by decide +kernel
theorem dX3_addBorder_27 : decode cX3_addBorder 27 = .ok (.getfield 21, 3) := by decide +kernel
theorem dX3_addBorder_30 : decode cX3_addBorder 30 = .ok (.iload_n 1, 1) := by decide +kernel
theorem dX3_addBorder_31 : decode cX3_addBorder 31 = .ok (.iconst 1, 1) := by decide +kernel
theorem dX3_addBorder_32 : decode cX3_addBorder 32 = .ok (.iadd, 1) := by decide +kernel
theorem dX3_addBorder_33 : decode cX3_addBorder 33 = .ok (.iconst 0, 1) := by decide +kernel
theorem dX3_addBorder_34 : decode cX3_addBorder 34 = .ok (.iastore, 1) := by decide +kernel
theorem dX3_addBorder_35 : decode cX3_addBorder 35 = .ok (.aload_n 0, 1) := by decide +kernel
theorem dX3_addBorder_36 : decode cX3_addBorder 36 = .ok (.getfield 25, 3) := by decide +kernel
theorem dX3_addBorder_39 : decode cX3_addBorder 39 = .ok (.aload_n 0, 1) := by decide +kernel
theorem dX3_addBorder_40 : decode cX3_addBorder 40 = .ok (.getfield 9, 3) := by decide +kernel
theorem dX3_addBorder_43 : decode cX3_addBorder 43 = .ok (.iconst 0, 1) := by decide +kernel
theorem dX3_addBorder_44 : decode cX3_addBorder 44 = .ok (.iastore, 1) := by decide +kernel
theorem dX3_addBorder_45 : decode cX3_addBorder 45 = .ok (.aload_n 0, 1) := by decide +kernel
theorem dX3_addBorder_46 : decode cX3_addBorder 46 = .ok (.dup, 1) := by decide +kernel
theorem dX3_addBorder_47 : decode cX3_addBorder 47 = .ok (.getfield 9, 3) := by decide +kernel
theorem dX3_addBorder_50 : decode cX3_addBorder 50 = .ok (.iconst 1, 1) := by decide +kernel
theorem dX3_addBorder_51 : decode cX3_addBorder 51 = .ok (.iadd, 1) := by decide +kernel
theorem dX3_addBorder_52 : decode cX3_addBorder 52 = .ok (.putfield 9, 3) := by decide +kernel
theorem dX3_addBorder_55 : decode cX3_addBorder 55 = .ok (.return_, 1) := by decide +kernel
theorem dX3_dropBorder_0 : decode cX3_dropBorder 0 = .ok (.aload_n 0, 1) := by decide +kernel
theorem dX3_dropBorder_1 : decode cX3_dropBorder 1 = .ok (.getfield 21, 3) := by decide +kernel
theorem dX3_dropBorder_4 : decode cX3_dropBorder 4 = .ok (.iconst 1, 1) := by decide +kernel
theorem dX3_dropBorder_5 : decode cX3_dropBorder 5 = .ok (.aload_n 0, 1) := by decide +kernel
theorem dX3_dropBorder_6 : decode cX3_dropBorder 6 = .ok (.getfield 21, 3) := by decide +kernel
theorem dX3_dropBorder_9 : decode cX3_dropBorder 9 = .ok (.iconst 0, 1) := by decide +kernel
theorem dX3_dropBorder_10 : decode cX3_dropBorder 10 = .ok (.aload_n 0, 1) := by decide +kernel
theorem dX3_dropBorder_11 : decode cX3_dropBorder 11 = .ok (.invokevirtual 44, 3) := by decide +kernel
theorem dX3_dropBorder_14 : decode cX3_dropBorder 14 = .ok (.iconst 2, 1) := by decide +kernel
theorem dX3_dropBorder_15 : decode cX3_dropBorder 15 = .ok (.isub, 1) := by decide +kernel
theorem dX3_dropBorder_16 : decode cX3_dropBorder 16 = .ok (.invokestatic 28, 3) := by decide +kernel
theorem dX3_dropBorder_19 : decode cX3_dropBorder 19 = .ok (.aload_n 0, 1) := by decide +kernel
theorem dX3_dropBorder_20 : decode cX3_dropBorder 20 = .ok (.dup, 1) := by decide +kernel
theorem dX3_dropBorder_21 : decode cX3_dropBorder 21 = .ok (.getfield 9, 3) := by decide +kernel
theorem dX3_dropBorder_24 : decode cX3_dropBorder 24 = .ok (.iconst 1, 1) := by decide +kernel
theorem dX3_dropBorder_25 : decode cX3_dropBorder 25 = .ok (.isub, 1) := by decide +kernel
theorem dX3_dropBorder_26 : decode cX3_dropBorder 26 = .ok (.putfield 9, 3) := by decide +kernel
theorem dX3_dropBorder_29 : decode cX3_dropBorder 29 = .ok (.return_, 1) := by decide +kernel
theorem dX3_reverseRow_0 : decode cX3_reverseRow 0 = .ok (.aload_n 0, 1) := by decide +kernel
theorem dX3_reverseRow_1 : decode cX3_reverseRow 1 = .ok (.invokevirtual 44, 3) := by decide +kernel
theorem dX3_reverseRow_4 : decode cX3_reverseRow 4 = .ok (.iconst 1, 1) := by decide +kernel
theorem dX3_reverseRow_5 : decode cX3_reverseRow 5 = .ok (.isub, 1) := by decide +kernel
theorem dX3_reverseRow_6 : decode cX3_reverseRow 6 = .ok (.istore_n 1, 1) := by decide +kernel
theorem dX3_reverseRow_7 : decode cX3_reverseRow 7 = .ok (.iconst 0, 1) := by decide +kernel
theorem dX3_reverseRow_8 : decode cX3_reverseRow 8 = .ok (.istore_n 2, 1) := by decide +kernel
theorem dX3_reverseRow_9 : decode cX3_reverseRow 9 = .ok (.iload_n 2, 1) := by decide +kernel
theorem dX3_reverseRow_10 : decode cX3_reverseRow 10 = .ok (.iload_n 1, 1) := by decide +kernel
theorem dX3_reverseRow_11 : decode cX3_reverseRow 11 = .ok (.iload_n 2, 1) := by decide +kernel
theorem dX3_reverseRow_12 : decode cX3_reverseRow 12 = .ok (.isub, 1) := by decide +kernel
theorem dX3_reverseRow_13 : decode cX3_reverseRow 13 = .ok (.if_icmp .ge 39, 3) := by decide +kernel
theorem dX3_reverseRow_16 : decode cX3_reverseRow 16 = .ok (.aload_n 0, 1) := by decide +kernel
theorem dX3_reverseRow_17 : decode cX3_reverseRow 17 = .ok (.getfield 21, 3) := by decide +kernel
theorem dX3_reverseRow_20 : decode cX3_reverseRow 20 = .ok (.iload_n 2, 1) := by decide +kernel
theorem dX3_reverseRow_21 : decode cX3_reverseRow 21 = .ok (.iaload, 1) := by decide +kernel
theorem dX3_reverseRow_22 : decode cX3_reverseRow 22 = .ok (.istore_n 3, 1) := by decide +kernel
theorem dX3_reverseRow_23 : decode cX3_reverseRow 23 = .ok (.aload_n 0, 1) := by decide +kernel
theorem dX3_reverseRow_24 : decode cX3_reverseRow 24 = .ok (.getfield 21, 3) := by decide +kernel
theorem dX3_reverseRow_27 : decode cX3_reverseRow 27 = .ok (.iload_n 2, 1) := by decide +kernel
theorem dX3_reverseRow_28 : decode cX3_reverseRow 28 = .ok (.aload_n 0, 1) := by decide +kernel
theorem dX3_reverseRow_29 : decode cX3_reverseRow 29 = .ok (.getfield 21, 3) := by decide +kernel
theorem dX3_reverseRow_32 : decode cX3_reverseRow 32 = .ok (.iload_n 1, 1) := by decide +kernel
theorem dX3_reverseRow_33 : decode cX3_reverseRow 33 = .ok (.iload_n 2, 1) := by decide +kernel
theorem dX3_reverseRow_34 : decode cX3_reverseRow 34 = .ok (.isub, 1) := by decide +kernel
theorem dX3_reverseRow_35 : decode cX3_reverseRow 35 = .ok (.iaload, 1) := by decide +kernel
theorem dX3_reverseRow_36 : decode cX3_reverseRow 36 = .ok (.iastore, 1) := by decide +kernel
theorem dX3_reverseRow_37 : decode cX3_reverseRow 37 = .ok (.aload_n 0, 1) := by decide +kernel
theorem dX3_reverseRow_38 : decode cX3_reverseRow 38 = .ok (.getfield 21, 3) := by decide +kernel
theorem dX3_reverseRow_41 : decode cX3_reverseRow 41 = .ok (.iload_n 1, 1) := by decide +kernel
theorem dX3_reverseRow_42 : decode cX3_reverseRow 42 = .ok (.iload_n 2, 1) := by decide +kernel
theorem dX3_reverseRow_43 : decode cX3_reverseRow 43 = .ok (.isub, 1) := by decide +kernel
theorem dX3_reverseRow_44 : decode cX3_reverseRow 44 = .ok (.iload_n 3, 1) := by decide +kernel
theorem dX3_reverseRow_45 : decode cX3_reverseRow 45 = .ok (.iastore, 1) := by decide +kernel
theorem dX3_reverseRow_46 : decode cX3_reverseRow 46 = .ok (.iinc 2 1, 3) := by decide +kernel
theorem dX3_reverseRow_49 : decode cX3_reverseRow 49 = .ok (.goto (-40), 3) := by decide +kernel
theorem dX3_reverseRow_52 : decode cX3_reverseRow 52 = .ok (.return_, 1) := by decide +kernel
theorem dX3_driftOnce_0 : decode cX3_driftOnce 0 = .ok (.aload_n 0, 1) := by decide +kernel
theorem dX3_driftOnce_1 : decode cX3_driftOnce 1 = .ok (.aload_n 0, 1) := by decide +kernel
theorem dX3_driftOnce_2 : decode cX3_driftOnce 2 = .ok (.getfield 18, 3) := by decide +kernel
theorem dX3_driftOnce_5 : decode cX3_driftOnce 5 = .ok (.i2l, 1) := by decide +kernel
theorem dX3_driftOnce_6 : decode cX3_driftOnce 6 = .ok (.ldc2_w 48, 3) := by decide +kernel
theorem dX3_driftOnce_9 : decode cX3_driftOnce 9 = .ok (.lmul, 1) := by decide +kernel
theorem dX3_driftOnce_10 : decode cX3_driftOnce 10 = .ok (.ldc2_w 50, 3) := by decide +kernel
theorem dX3_driftOnce_13 : decode cX3_driftOnce 13 = .ok (.ladd, 1) := by decide +kernel
theorem dX3_driftOnce_14 : decode cX3_driftOnce 14 = .ok (.ldc2_w 52, 3) := by decide +kernel
theorem dX3_driftOnce_17 : decode cX3_driftOnce 17 = .ok (.land, 1) := by decide +kernel
theorem dX3_driftOnce_18 : decode cX3_driftOnce 18 = .ok (.l2i, 1) := by decide +kernel
theorem dX3_driftOnce_19 : decode cX3_driftOnce 19 = .ok (.putfield 18, 3) := by decide +kernel
theorem dX3_driftOnce_22 : decode cX3_driftOnce 22 = .ok (.aload_n 0, 1) := by decide +kernel
theorem dX3_driftOnce_23 : decode cX3_driftOnce 23 = .ok (.getfield 21, 3) := by decide +kernel
theorem dX3_driftOnce_26 : decode cX3_driftOnce 26 = .ok (.aload_n 0, 1) := by decide +kernel
theorem dX3_driftOnce_27 : decode cX3_driftOnce 27 = .ok (.getfield 18, 3) := by decide +kernel
theorem dX3_driftOnce_30 : decode cX3_driftOnce 30 = .ok (.ldc 54, 2) := by decide +kernel
theorem dX3_driftOnce_32 : decode cX3_driftOnce 32 = .ok (.idiv, 1) := by decide +kernel
theorem dX3_driftOnce_33 : decode cX3_driftOnce 33 = .ok (.aload_n 0, 1) := by decide +kernel
theorem dX3_driftOnce_34 : decode cX3_driftOnce 34 = .ok (.invokevirtual 44, 3) := by decide +kernel
theorem dX3_driftOnce_37 : decode cX3_driftOnce 37 = .ok (.irem, 1) := by decide +kernel
theorem dX3_driftOnce_38 : decode cX3_driftOnce 38 = .ok (.aload_n 0, 1) := by decide +kernel
theorem dX3_driftOnce_39 : decode cX3_driftOnce 39 = .ok (.getfield 18, 3) := by decide +kernel
theorem dX3_driftOnce_42 : decode cX3_driftOnce 42 = .ok (.sipush 256, 3) := by decide +kernel
theorem dX3_driftOnce_45 : decode cX3_driftOnce 45 = .ok (.idiv, 1) := by decide +kernel
theorem dX3_driftOnce_46 : decode cX3_driftOnce 46 = .ok (.iload_n 1, 1) := by decide +kernel
theorem dX3_driftOnce_47 : decode cX3_driftOnce 47 = .ok (.irem, 1) := by decide +kernel
theorem dX3_driftOnce_48 : decode cX3_driftOnce 48 = .ok (.iastore, 1) := by decide +kernel
theorem dX3_driftOnce_49 : decode cX3_driftOnce 49 = .ok (.return_, 1) := by decide +kernel
theorem dX4_init_0 : decode cX4_init 0 = .ok (.aload_n 0, 1) := by decide +kernel
theorem dX4_init_1 : decode cX4_init 1 = .ok (.invokespecial 3, 3) := by decide +kernel
theorem dX4_init_4 : decode cX4_init 4 = .ok (.aload_n 0, 1) := by decide +kernel
theorem dX4_init_5 : decode cX4_init 5 = .ok (.iconst (-1), 1) := by decide +kernel
theorem dX4_init_6 : decode cX4_init 6 = .ok (.putfield 11, 3) := by decide +kernel
theorem dX4_init_9 : decode cX4_init 9 = .ok (.aload_n 0, 1) := by decide +kernel
theorem dX4_init_10 : decode cX4_init 10 = .ok (.iconst 0, 1) := by decide +kernel
theorem dX4_init_11 : decode cX4_init 11 = .ok (.putfield 15, 3) := by decide +kernel
theorem dX4_init_14 : decode cX4_init 14 = .ok (.aload_n 0, 1) := by decide +kernel
theorem dX4_init_15 : decode cX4_init 15 = .ok (.bipush 24, 2) := by decide +kernel
theorem dX4_init_17 : decode cX4_init 17 = .ok (.newarray .long, 2) := by decide +kernel
theorem dX4_init_19 : decode cX4_init 19 = .ok (.putfield 18, 3) := by decide +kernel
theorem dX4_init_22 : decode cX4_init 22 = .ok (.return_, 1) := by decide +kernel
theorem dX4_isMissing_0 : decode cX4_isMissing 0 = .ok (.aload_n 0, 1) := by decide +kernel
theorem dX4_isMissing_1 : decode cX4_isMissing 1 = .ok (.getfield 11, 3) := by decide +kernel
theorem dX4_isMissing_4 : decode cX4_isMissing 4 = .ok (.iconst (-1), 1) := by decide +kernel
theorem dX4_isMissing_5 : decode cX4_isMissing 5 = .ok (.if_icmp .ne 7, 3) := by decide +kernel
theorem dX4_isMissing_8 : decode cX4_isMissing 8 = .ok (.iconst 1, 1) := by decide +kernel
theorem dX4_isMissing_9 : decode cX4_isMissing 9 = .ok (.goto 4, 3) := by decide +kernel
theorem dX4_isMissing_12 : decode cX4_isMissing 12 = .ok (.iconst 0, 1) := by decide +kernel
theorem dX4_isMissing_13 : decode cX4_isMissing 13 = .ok (.ireturn, 1) := by decide +kernel
theorem dX4_begin_0 : decode cX4_begin 0 = .ok (.aload_n 0, 1) := by decide +kernel
theorem dX4_begin_1 : decode cX4_begin 1 = .ok (.iload_n 1, 1) := by decide +kernel
theorem dX4_begin_2 : decode cX4_begin 2 = .ok (.putfield 11, 3) := by decide +kernel
theorem dX4_begin_5 : decode cX4_begin 5 = .ok (.aload_n 0, 1) := by decide +kernel
theorem dX4_begin_6 : decode cX4_begin 6 = .ok (.iload_n 2, 1) := by decide +kernel
theorem dX4_begin_7 : decode cX4_begin 7 = .ok (.putfield 15, 3) := by decide +kernel
theorem dX4_begin_10 : decode cX4_begin 10 = .ok (.iconst 0, 1) := by decide +kernel
theorem dX4_begin_11 : decode cX4_begin 11 = .ok (.istore_n 3, 1) := by decide +kernel
theorem dX4_begin_12 : decode cX4_begin 12 = .ok (.iload_n 3, 1) := by decide +kernel
theorem dX4_begin_13 : decode cX4_begin 13 = .ok (.bipush 24, 2) := by decide +kernel
theorem dX4_begin_15 : decode cX4_begin 15 = .ok (.if_icmp .ge 16, 3) := by decide +kernel
theorem dX4_begin_18 : decode cX4_begin 18 = .ok (.aload_n 0, 1) := by decide +kernel
theorem dX4_begin_19 : decode cX4_begin 19 = .ok (.getfield 18, 3) := by decide +kernel
theorem dX4_begin_22 : decode cX4_begin 22 = .ok (.iload_n 3, 1) := by decide +kernel
theorem dX4_begin_23 : decode cX4_begin 23 = .ok (.lconst 0, 1) := by decide +kernel
theorem dX4_begin_24 : decode cX4_begin 24 = .ok (.lastore, 1) := by decide +kernel
theorem dX4_begin_25 : decode cX4_begin 25 = .ok (.iinc 3 1, 3) := by decide +kernel
theorem dX4_begin_28 : decode cX4_begin 28 = .ok (.goto (-16), 3) := by decide +kernel
theorem dX4_begin_31 : decode cX4_begin 31 = .ok (.return_, 1) := by decide +kernel
theorem dX4_lose_0 : decode cX4_lose 0 = .ok (.aload_n 0, 1) := by decide +kernel
theorem dX4_lose_1 : decode cX4_lose 1 = .ok (.iconst (-1), 1) := by decide +kernel
theorem dX4_lose_2 : decode cX4_lose 2 = .ok (.putfield 11, 3) := by decide +kernel
theorem dX4_lose_5 : decode cX4_lose 5 = .ok (.aload_n 0, 1) := by decide +kernel
theorem dX4_lose_6 : decode cX4_lose 6 = .ok (.iconst 0, 1) := by decide +kernel
theorem dX4_lose_7 : decode cX4_lose 7 = .ok (.putfield 15, 3) := by decide +kernel
theorem dX4_lose_10 : decode cX4_lose 10 = .ok (.return_, 1) := by decide +kernel
theorem dX4_holds_0 : decode cX4_holds 0 = .ok (.iload_n 1, 1) := by decide +kernel
theorem dX4_holds_1 : decode cX4_holds 1 = .ok (.ifCond .lt 21, 3) := by decide +kernel
theorem dX4_holds_4 : decode cX4_holds 4 = .ok (.iload_n 2, 1) := by decide +kernel
theorem dX4_holds_5 : decode cX4_holds 5 = .ok (.ifCond .lt 17, 3) := by decide +kernel
theorem dX4_holds_8 : decode cX4_holds 8 = .ok (.iload_n 1, 1) := by decide +kernel
theorem dX4_holds_9 : decode cX4_holds 9 = .ok (.aload_n 0, 1) := by decide +kernel
theorem dX4_holds_10 : decode cX4_holds 10 = .ok (.getfield 15, 3) := by decide +kernel
theorem dX4_holds_13 : decode cX4_holds 13 = .ok (.iload_n 2, 1) := by decide +kernel
theorem dX4_holds_14 : decode cX4_holds 14 = .ok (.isub, 1) := by decide +kernel
theorem dX4_holds_15 : decode cX4_holds 15 = .ok (.if_icmp .gt 7, 3) := by decide +kernel
theorem dX4_holds_18 : decode cX4_holds 18 = .ok (.iconst 1, 1) := by decide +kernel
theorem dX4_holds_19 : decode cX4_holds 19 = .ok (.goto 4, 3) := by decide +kernel
theorem dX4_holds_22 : decode cX4_holds 22 = .ok (.iconst 0, 1) := by decide +kernel
theorem dX4_holds_23 : decode cX4_holds 23 = .ok (.ireturn, 1) := by decide +kernel
theorem dX5_init_0 : decode cX5_init 0 = .ok (.aload_n 0, 1) := by decide +kernel
theorem dX5_init_1 : decode cX5_init 1 = .ok (.invokespecial 3, 3) := by decide +kernel
theorem dX5_init_4 : decode cX5_init 4 = .ok (.aload_n 0, 1) := by decide +kernel
theorem dX5_init_5 : decode cX5_init 5 = .ok (.bipush 12, 2) := by decide +kernel
theorem dX5_init_7 : decode cX5_init 7 = .ok (.newarray .long, 2) := by decide +kernel
theorem dX5_init_9 : decode cX5_init 9 = .ok (.putfield 9, 3) := by decide +kernel
theorem dX5_init_12 : decode cX5_init 12 = .ok (.aload_n 0, 1) := by decide +kernel
theorem dX5_init_13 : decode cX5_init 13 = .ok (.bipush 11, 2) := by decide +kernel
theorem dX5_init_15 : decode cX5_init 15 = .ok (.newarray .int, 2) := by decide +kernel
theorem dX5_init_17 : decode cX5_init 17 = .ok (.putfield 15, 3) := by decide +kernel
theorem dX5_init_20 : decode cX5_init 20 = .ok (.aload_n 0, 1) := by decide +kernel
theorem dX5_init_21 : decode cX5_init 21 = .ok (.iconst 0, 1) := by decide +kernel
theorem dX5_init_22 : decode cX5_init 22 = .ok (.putfield 19, 3) := by decide +kernel
theorem dX5_init_25 : decode cX5_init 25 = .ok (.aload_n 0, 1) := by decide +kernel
theorem dX5_init_26 : decode cX5_init 26 = .ok (.iconst 0, 1) := by decide +kernel
theorem dX5_init_27 : decode cX5_init 27 = .ok (.putfield 23, 3) := by decide +kernel
theorem dX5_init_30 : decode cX5_init 30 = .ok (.aload_n 0, 1) := by decide +kernel
theorem dX5_init_31 : decode cX5_init 31 = .ok (.new 26, 3) := by decide +kernel
theorem dX5_init_34 : decode cX5_init 34 = .ok (.dup, 1) := by decide +kernel
theorem dX5_init_35 : decode cX5_init 35 = .ok (.invokespecial 28, 3) := by decide +kernel
theorem dX5_init_38 : decode cX5_init 38 = .ok (.putfield 29, 3) := by decide +kernel
theorem dX5_init_41 : decode cX5_init 41 = .ok (.return_, 1) := by decide +kernel
theorem dX5_isOf_0 : decode cX5_isOf 0 = .ok (.iload_n 2, 1) := by decide +kernel
theorem dX5_isOf_1 : decode cX5_isOf 1 = .ok (.aload_n 0, 1) := by decide +kernel
theorem dX5_isOf_2 : decode cX5_isOf 2 = .ok (.getfield 23, 3) := by decide +kernel
theorem dX5_isOf_5 : decode cX5_isOf 5 = .ok (.if_icmp .ne 31, 3) := by decide +kernel
theorem dX5_isOf_8 : decode cX5_isOf 8 = .ok (.aload_n 1, 1) := by decide +kernel
theorem dX5_isOf_9 : decode cX5_isOf 9 = .ok (.getfield 33, 3) := by decide +kernel
theorem dX5_isOf_12 : decode cX5_isOf 12 = .ok (.aload_n 0, 1) := by decide +kernel
theorem dX5_isOf_13 : decode cX5_isOf 13 = .ok (.getfield 29, 3) := by decide +kernel
theorem dX5_isOf_16 : decode cX5_isOf 16 = .ok (.getfield 33, 3) := by decide +kernel
theorem dX5_isOf_19 : decode cX5_isOf 19 = .ok (.if_icmp .ne 17, 3) := by decide +kernel
theorem dX5_isOf_22 : decode cX5_isOf 22 = .ok (.aload_n 1, 1) := by decide +kernel
theorem dX5_isOf_23 : decode cX5_isOf 23 = .ok (.getfield 36, 3) := by decide +kernel
theorem dX5_isOf_26 : decode cX5_isOf 26 = .ok (.aload_n 0, 1) := by decide +kernel
theorem dX5_isOf_27 : decode cX5_isOf 27 = .ok (.getfield 29, 3) := by decide +kernel
theorem dX5_isOf_30 : decode cX5_isOf 30 = .ok (.getfield 36, 3) := by decide +kernel
theorem dX5_isOf_33 : decode cX5_isOf 33 = .ok (.if_icmp .eq 5, 3) := by decide +kernel
theorem dX5_isOf_36 : decode cX5_isOf 36 = .ok (.iconst 0, 1) := by decide +kernel
theorem dX5_isOf_37 : decode cX5_isOf 37 = .ok (.ireturn, 1) := by decide +kernel
theorem dX5_isOf_38 : decode cX5_isOf 38 = .ok (.iconst 0, 1) := by decide +kernel
theorem dX5_isOf_39 : decode cX5_isOf 39 = .ok (.istore_n 3, 1) := by decide +kernel
theorem dX5_isOf_40 : decode cX5_isOf 40 = .ok (.iload_n 3, 1) := by decide +kernel
theorem dX5_isOf_41 : decode cX5_isOf 41 = .ok (.aload_n 1, 1) := by decide +kernel
theorem dX5_isOf_42 : decode cX5_isOf 42 = .ok (.invokevirtual 39, 3) := by decide +kernel
theorem dX5_isOf_45 : decode cX5_isOf 45 = .ok (.if_icmp .ge 29, 3) := by decide +kernel
theorem dX5_isOf_48 : decode cX5_isOf 48 = .ok (.aload_n 1, 1) := by decide +kernel
theorem dX5_isOf_49 : decode cX5_isOf 49 = .ok (.getfield 43, 3) := by decide +kernel
theorem dX5_isOf_52 : decode cX5_isOf 52 = .ok (.iload_n 3, 1) := by decide +kernel
theorem dX5_isOf_53 : decode cX5_isOf 53 = .ok (.iaload, 1) := by decide +kernel
theorem dX5_isOf_54 : decode cX5_isOf 54 = .ok (.aload_n 0, 1) := by decide +kernel
theorem dX5_isOf_55 : decode cX5_isOf 55 = .ok (.getfield 29, 3) := by decide +kernel
theorem dX5_isOf_58 : decode cX5_isOf 58 = .ok (.getfield 43, 3) := by decide +kernel
theorem dX5_isOf_61 : decode cX5_isOf 61 = .ok (.iload_n 3, 1) := by decide +kernel
theorem dX5_isOf_62 : decode cX5_isOf 62 = .ok (.iaload, 1) := by decide +kernel
theorem dX5_isOf_63 : decode cX5_isOf 63 = .ok (.if_icmp .eq 5, 3) := by decide +kernel
theorem dX5_isOf_66 : decode cX5_isOf 66 = .ok (.iconst 0, 1) := by decide +kernel
theorem dX5_isOf_67 : decode cX5_isOf 67 = .ok (.ireturn, 1) := by decide +kernel
theorem dX5_isOf_68 : decode cX5_isOf 68 = .ok (.iinc 3 1, 3) := by decide +kernel
theorem dX5_isOf_71 : decode cX5_isOf 71 = .ok (.goto (-31), 3) := by decide +kernel
theorem dX5_isOf_74 : decode cX5_isOf 74 = .ok (.iconst 1, 1) := by decide +kernel
theorem dX5_isOf_75 : decode cX5_isOf 75 = .ok (.ireturn, 1) := by decide +kernel
theorem dX5_begin_0 : decode cX5_begin 0 = .ok (.aload_n 0, 1) := by decide +kernel
theorem dX5_begin_1 : decode cX5_begin 1 = .ok (.iload_n 2, 1) := by decide +kernel
theorem dX5_begin_2 : decode cX5_begin 2 = .ok (.putfield 23, 3) := by decide +kernel
theorem dX5_begin_5 : decode cX5_begin 5 = .ok (.aload_n 0, 1) := by decide +kernel
theorem dX5_begin_6 : decode cX5_begin 6 = .ok (.getfield 29, 3) := by decide +kernel
theorem dX5_begin_9 : decode cX5_begin 9 = .ok (.aload_n 1, 1) := by decide +kernel
theorem dX5_begin_10 : decode cX5_begin 10 = .ok (.invokevirtual 46, 3) := by decide +kernel
theorem dX5_begin_13 : decode cX5_begin 13 = .ok (.aload_n 0, 1) := by decide +kernel
theorem dX5_begin_14 : decode cX5_begin 14 = .ok (.iconst 0, 1) := by decide +kernel
theorem dX5_begin_15 : decode cX5_begin 15 = .ok (.putfield 19, 3) := by decide +kernel
theorem dX5_begin_18 : decode cX5_begin 18 = .ok (.aload_n 1, 1) := by decide +kernel
theorem dX5_begin_19 : decode cX5_begin 19 = .ok (.getfield 36, 3) := by decide +kernel
theorem dX5_begin_22 : decode cX5_begin 22 = .ok (.ifCond .eq 11, 3) := by decide +kernel
theorem dX5_begin_25 : decode cX5_begin 25 = .ok (.aload_n 1, 1) := by decide +kernel
theorem dX5_begin_26 : decode cX5_begin 26 = .ok (.getfield 36, 3) := by decide +kernel
theorem dX5_begin_29 : decode cX5_begin 29 = .ok (.iconst 1, 1) := by decide +kernel
theorem dX5_begin_30 : decode cX5_begin 30 = .ok (.if_icmp .ne 7, 3) := by decide +kernel
theorem dX5_begin_33 : decode cX5_begin 33 = .ok (.iconst 1, 1) := by decide +kernel
theorem dX5_begin_34 : decode cX5_begin 34 = .ok (.goto 4, 3) := by decide +kernel
theorem dX5_begin_37 : decode cX5_begin 37 = .ok (.iconst 0, 1) := by decide +kernel
theorem dX5_begin_38 : decode cX5_begin 38 = .ok (.istore_n 3, 1) := by decide +kernel
theorem dX5_begin_39 : decode cX5_begin 39 = .ok (.iload_n 3, 1) := by decide +kernel
theorem dX5_begin_40 : decode cX5_begin 40 = .ok (.ifCond .eq 7, 3) := by decide +kernel
theorem dX5_begin_43 : decode cX5_begin 43 = .ok (.iconst 0, 1) := by decide +kernel
theorem dX5_begin_44 : decode cX5_begin 44 = .ok (.goto 9, 3) := by decide +kernel
theorem dX5_begin_47 : decode cX5_begin 47 = .ok (.aload_n 1, 1) := by decide +kernel
theorem dX5_begin_48 : decode cX5_begin 48 = .ok (.getfield 33, 3) := by decide +kernel
theorem dX5_begin_51 : decode cX5_begin 51 = .ok (.iconst 1, 1) := by decide +kernel
theorem dX5_begin_52 : decode cX5_begin 52 = .ok (.isub, 1) := by decide +kernel
theorem dX5_begin_53 : decode cX5_begin 53 = .ok (.istore 4, 2) := by decide +kernel
theorem dX5_begin_55 : decode cX5_begin 55 = .ok (.iload 4, 2) := by decide +kernel
theorem dX5_begin_57 : decode cX5_begin 57 = .ok (.aload_n 1, 1) := by decide +kernel
theorem dX5_begin_58 : decode cX5_begin 58 = .ok (.invokevirtual 39, 3) := by decide +kernel
theorem dX5_begin_61 : decode cX5_begin 61 = .ok (.if_icmp .ge 40, 3) := by decide +kernel
theorem dX5_begin_64 : decode cX5_begin 64 = .ok (.aload_n 1, 1) := by decide +kernel
theorem dX5_begin_65 : decode cX5_begin 65 = .ok (.getfield 43, 3) := by decide +kernel
theorem dX5_begin_68 : decode cX5_begin 68 = .ok (.iload 4, 2) := by decide +kernel
theorem dX5_begin_70 : decode cX5_begin 70 = .ok (.iaload, 1) := by decide +kernel
theorem dX5_begin_71 : decode cX5_begin 71 = .ok (.ifCond .eq 24, 3) := by decide +kernel
theorem dX5_begin_74 : decode cX5_begin 74 = .ok (.aload_n 0, 1) := by decide +kernel
theorem dX5_begin_75 : decode cX5_begin 75 = .ok (.getfield 15, 3) := by decide +kernel
theorem dX5_begin_78 : decode cX5_begin 78 = .ok (.aload_n 0, 1) := by decide +kernel
theorem dX5_begin_79 : decode cX5_begin 79 = .ok (.getfield 19, 3) := by decide +kernel
theorem dX5_begin_82 : decode cX5_begin 82 = .ok (.iload 4, 2) := by decide +kernel
theorem dX5_begin_84 : decode cX5_begin 84 = .ok (.iastore, 1) := by decide +kernel
theorem dX5_begin_85 : decode cX5_begin 85 = .ok (.aload_n 0, 1) := by decide +kernel
theorem dX5_begin_86 : decode cX5_begin 86 = .ok (.dup, 1) := by decide +kernel
theorem dX5_begin_87 : decode cX5_begin 87 = .ok (.getfield 19, 3) := by decide +kernel
theorem dX5_begin_90 : decode cX5_begin 90 = .ok (.iconst 1, 1) := by decide +kernel
theorem dX5_begin_91 : decode cX5_begin 91 = .ok (.iadd, 1) := by decide +kernel
theorem dX5_begin_92 : decode cX5_begin 92 = .ok (.putfield 19, 3) := by decide +kernel
theorem dX5_begin_95 : decode cX5_begin 95 = .ok (.iinc 4 1, 3) := by decide +kernel
theorem dX5_begin_98 : decode cX5_begin 98 = .ok (.goto (-43), 3) := by decide +kernel
theorem dX5_begin_101 : decode cX5_begin 101 = .ok (.iconst 0, 1) := by decide +kernel
theorem dX5_begin_102 : decode cX5_begin 102 = .ok (.istore 4, 2) := by decide +kernel
theorem dX5_begin_104 : decode cX5_begin 104 = .ok (.iload 4, 2) := by decide +kernel
theorem dX5_begin_106 : decode cX5_begin 106 = .ok (.bipush 11, 2) := by decide +kernel
theorem dX5_begin_108 : decode cX5_begin 108 = .ok (.if_icmp .gt 17, 3) := by decide +kernel
theorem dX5_begin_111 : decode cX5_begin 111 = .ok (.aload_n 0, 1) := by decide +kernel
theorem dX5_begin_112 : decode cX5_begin 112 = .ok (.getfield 9, 3) := by decide +kernel
theorem dX5_begin_115 : decode cX5_begin 115 = .ok (.iload 4, 2) := by decide +kernel
theorem dX5_begin_117 : decode cX5_begin 117 = .ok (.lconst 0, 1) := by decide +kernel
theorem dX5_begin_118 : decode cX5_begin 118 = .ok (.lastore, 1) := by decide +kernel
theorem dX5_begin_119 : decode cX5_begin 119 = .ok (.iinc 4 1, 3) := by decide +kernel
theorem dX5_begin_122 : decode cX5_begin 122 = .ok (.goto (-18), 3) := by decide +kernel
theorem dX5_begin_125 : decode cX5_begin 125 = .ok (.return_, 1) := by decide +kernel
theorem dX5_weighted_0 : decode cX5_weighted 0 = .ok (.lconst 0, 1) := by decide +kernel
theorem dX5_weighted_1 : decode cX5_weighted 1 = .ok (.lstore_n 2, 1) := by decide +kernel
theorem dX5_weighted_2 : decode cX5_weighted 2 = .ok (.iconst 0, 1) := by decide +kernel
theorem dX5_weighted_3 : decode cX5_weighted 3 = .ok (.istore 4, 2) := by decide +kernel
theorem dX5_weighted_5 : decode cX5_weighted 5 = .ok (.iload 4, 2) := by decide +kernel
theorem dX5_weighted_7 : decode cX5_weighted 7 = .ok (.aload_n 0, 1) := by decide +kernel
theorem dX5_weighted_8 : decode cX5_weighted 8 = .ok (.getfield 19, 3) := by decide +kernel
theorem dX5_weighted_11 : decode cX5_weighted 11 = .ok (.if_icmp .gt 43, 3) := by decide +kernel
theorem dX5_weighted_14 : decode cX5_weighted 14 = .ok (.lload_n 2, 1) := by decide +kernel
theorem dX5_weighted_15 : decode cX5_weighted 15 = .ok (.aload_n 0, 1) := by decide +kernel
theorem dX5_weighted_16 : decode cX5_weighted 16 = .ok (.getfield 9, 3) := by decide +kernel
theorem dX5_weighted_19 : decode cX5_weighted 19 = .ok (.iload 4, 2) := by decide +kernel
theorem dX5_weighted_21 : decode cX5_weighted 21 = .ok (.laload, 1) := by decide +kernel
theorem dX5_weighted_22 : decode cX5_weighted 22 = .ok (.iload_n 1, 1) := by decide +kernel
theorem dX5_weighted_23 : decode cX5_weighted 23 = .ok (.i2l, 1) := by decide +kernel
theorem dX5_weighted_24 : decode cX5_weighted 24 = .ok (.iload 4, 2) := by decide +kernel
theorem dX5_weighted_26 : decode cX5_weighted 26 = .ok (.invokestatic 50, 3) := by decide +kernel
theorem dX5_weighted_29 : decode cX5_weighted 29 = .ok (.lmul, 1) := by decide +kernel
theorem dX5_weighted_30 : decode cX5_weighted 30 = .ok (.bipush 10, 2) := by decide +kernel
theorem dX5_weighted_32 : decode cX5_weighted 32 = .ok (.iload_n 1, 1) := by decide +kernel
theorem dX5_weighted_33 : decode cX5_weighted 33 = .ok (.isub, 1) := by decide +kernel
theorem dX5_weighted_34 : decode cX5_weighted 34 = .ok (.i2l, 1) := by decide +kernel
theorem dX5_weighted_35 : decode cX5_weighted 35 = .ok (.aload_n 0, 1) := by decide +kernel
theorem dX5_weighted_36 : decode cX5_weighted 36 = .ok (.getfield 19, 3) := by decide +kernel
theorem dX5_weighted_39 : decode cX5_weighted 39 = .ok (.iload 4, 2) := by decide +kernel
theorem dX5_weighted_41 : decode cX5_weighted 41 = .ok (.isub, 1) := by decide +kernel
theorem dX5_weighted_42 : decode cX5_weighted 42 = .ok (.invokestatic 50, 3) := by decide +kernel
theorem dX5_weighted_45 : decode cX5_weighted 45 = .ok (.lmul, 1) := by decide +kernel
theorem dX5_weighted_46 : decode cX5_weighted 46 = .ok (.ladd, 1) := by decide +kernel
theorem dX5_weighted_47 : decode cX5_weighted 47 = .ok (.lstore_n 2, 1) := by decide +kernel
theorem dX5_weighted_48 : decode cX5_weighted 48 = .ok (.iinc 4 1, 3) := by decide +kernel
theorem dX5_weighted_51 : decode cX5_weighted 51 = .ok (.goto (-46), 3) := by decide +kernel
theorem dX5_weighted_54 : decode cX5_weighted 54 = .ok (.lload_n 2, 1) := by decide +kernel
theorem dX5_weighted_55 : decode cX5_weighted 55 = .ok (.lreturn, 1) := by decide +kernel
