theorem dX7_widen_100 : decode cX7_widen 100 = .ok (.iconst 0, 1) := by decide +kernel
theorem dX7_widen_101 : decode cX7_widen 101 = .ok (.iaload, 1) := by decide +kernel
theorem dX7_widen_102 : decode cX7_widen 102 = .ok (.ireturn, 1) := by decide +kernel
theorem dX7_cut_0 : decode cX7_cut 0 = .ok (.aload_n 0, 1) := by decide +kernel
theorem dX7_cut_1 : decode cX7_cut 1 = .ok (.invokevirtual 61, 3) := by decide +kernel
theorem dX7_cut_4 : decode cX7_cut 4 = .ok (.istore_n 1, 1) := by decide +kernel
theorem dX7_cut_5 : decode cX7_cut 5 = .ok (.aload_n 0, 1) := by decide +kernel
theorem dX7_cut_6 : decode cX7_cut 6 = .ok (.getfield 7, 3) := by decide +kernel
theorem dX7_cut_9 : decode cX7_cut 9 = .ok (.iconst 0, 1) := by decide +kernel
theorem dX7_cut_10 : decode cX7_cut 10 = .ok (.iaload, 1) := by decide +kernel
theorem dX7_cut_11 : decode cX7_cut 11 = .ok (.iconst 1, 1) := by decide +kernel
theorem dX7_cut_12 : decode cX7_cut 12 = .ok (.if_icmp .ne 6, 3) := by decide +kernel
theorem dX7_cut_15 : decode cX7_cut 15 = .ok (.bipush (-2), 2) := by decide +kernel
theorem dX7_cut_17 : decode cX7_cut 17 = .ok (.ireturn, 1) := by decide +kernel
theorem dX7_cut_18 : decode cX7_cut 18 = .ok (.aload_n 0, 1) := by decide +kernel
theorem dX7_cut_19 : decode cX7_cut 19 = .ok (.invokevirtual 166, 3) := by decide +kernel
theorem dX7_cut_22 : decode cX7_cut 22 = .ok (.iconst 0, 1) := by decide +kernel
theorem dX7_cut_23 : decode cX7_cut 23 = .ok (.istore_n 2, 1) := by decide +kernel
theorem dX7_cut_24 : decode cX7_cut 24 = .ok (.iload_n 2, 1) := by decide +kernel
theorem dX7_cut_25 : decode cX7_cut 25 = .ok (.iload_n 1, 1) := by decide +kernel
theorem dX7_cut_26 : decode cX7_cut 26 = .ok (.iconst 2, 1) := by decide +kernel
theorem dX7_cut_27 : decode cX7_cut 27 = .ok (.isub, 1) := by decide +kernel
theorem dX7_cut_28 : decode cX7_cut 28 = .ok (.if_icmp .ge 27, 3) := by decide +kernel
theorem dX7_cut_31 : decode cX7_cut 31 = .ok (.aload_n 0, 1) := by decide +kernel
theorem dX7_cut_32 : decode cX7_cut 32 = .ok (.getfield 7, 3) := by decide +kernel
theorem dX7_cut_35 : decode cX7_cut 35 = .ok (.iconst 4, 1) := by decide +kernel
theorem dX7_cut_36 : decode cX7_cut 36 = .ok (.iload_n 2, 1) := by decide +kernel
theorem dX7_cut_37 : decode cX7_cut 37 = .ok (.iadd, 1) := by decide +kernel
theorem dX7_cut_38 : decode cX7_cut 38 = .ok (.aload_n 0, 1) := by decide +kernel
theorem dX7_cut_39 : decode cX7_cut 39 = .ok (.getfield 7, 3) := by decide +kernel
theorem dX7_cut_42 : decode cX7_cut 42 = .ok (.iconst 4, 1) := by decide +kernel
theorem dX7_cut_43 : decode cX7_cut 43 = .ok (.iload_n 2, 1) := by decide +kernel
theorem dX7_cut_44 : decode cX7_cut 44 = .ok (.iadd, 1) := by decide +kernel
theorem dX7_cut_45 : decode cX7_cut 45 = .ok (.iconst 1, 1) := by decide +kernel
theorem dX7_cut_46 : decode cX7_cut 46 = .ok (.iadd, 1) := by decide +kernel
theorem dX7_cut_47 : decode cX7_cut 47 = .ok (.iaload, 1) := by decide +kernel
theorem dX7_cut_48 : decode cX7_cut 48 = .ok (.iastore, 1) := by decide +kernel
theorem dX7_cut_49 : decode cX7_cut 49 = .ok (.iinc 2 1, 3) := by decide +kernel
theorem dX7_cut_52 : decode cX7_cut 52 = .ok (.goto (-28), 3) := by decide +kernel
theorem dX7_cut_55 : decode cX7_cut 55 = .ok (.aload_n 0, 1) := by decide +kernel
theorem dX7_cut_56 : decode cX7_cut 56 = .ok (.getfield 7, 3) := by decide +kernel
theorem dX7_cut_59 : decode cX7_cut 59 = .ok (.iconst 4, 1) := by decide +kernel
theorem dX7_cut_60 : decode cX7_cut 60 = .ok (.iload_n 1, 1) := by decide +kernel
theorem dX7_cut_61 : decode cX7_cut 61 = .ok (.iadd, 1) := by decide +kernel
theorem dX7_cut_62 : decode cX7_cut 62 = .ok (.iconst 2, 1) := by decide +kernel
theorem dX7_cut_63 : decode cX7_cut 63 = .ok (.isub, 1) := by decide +kernel
theorem dX7_cut_64 : decode cX7_cut 64 = .ok (.iconst 0, 1) := by decide +kernel
theorem dX7_cut_65 : decode cX7_cut 65 = .ok (.iastore, 1) := by decide +kernel
theorem dX7_cut_66 : decode cX7_cut 66 = .ok (.aload_n 0, 1) := by decide +kernel
theorem dX7_cut_67 : decode cX7_cut 67 = .ok (.getfield 7, 3) := by decide +kernel
theorem dX7_cut_70 : decode cX7_cut 70 = .ok (.iconst 4, 1) := by decide +kernel
theorem dX7_cut_71 : decode cX7_cut 71 = .ok (.iload_n 1, 1) := by decide +kernel
theorem dX7_cut_72 : decode cX7_cut 72 = .ok (.iadd, 1) := by decide +kernel
theorem dX7_cut_73 : decode cX7_cut 73 = .ok (.iconst 1, 1) := by decide +kernel
theorem dX7_cut_74 : decode cX7_cut 74 = .ok (.isub, 1) := by decide +kernel
theorem dX7_cut_75 : decode cX7_cut 75 = .ok (.iconst 0, 1) := by decide +kernel
theorem dX7_cut_76 : decode cX7_cut 76 = .ok (.iastore, 1) := by decide +kernel
theorem dX7_cut_77 : decode cX7_cut 77 = .ok (.aload_n 0, 1) := by decide +kernel
theorem dX7_cut_78 : decode cX7_cut 78 = .ok (.getfield 7, 3) := by decide +kernel
theorem dX7_cut_81 : decode cX7_cut 81 = .ok (.iconst 0, 1) := by decide +kernel
theorem dX7_cut_82 : decode cX7_cut 82 = .ok (.dup2, 1) := by decide +kernel
theorem dX7_cut_83 : decode cX7_cut 83 = .ok (.iaload, 1) := by decide +kernel
theorem dX7_cut_84 : decode cX7_cut 84 = .ok (.iconst 1, 1) := by decide +kernel
theorem dX7_cut_85 : decode cX7_cut 85 = .ok (.isub, 1) := by decide +kernel
theorem dX7_cut_86 : decode cX7_cut 86 = .ok (.iastore, 1) := by decide +kernel
theorem dX7_cut_87 : decode cX7_cut 87 = .ok (.aload_n 0, 1) := by decide +kernel
theorem dX7_cut_88 : decode cX7_cut 88 = .ok (.getfield 7, 3) := by decide +kernel
theorem dX7_cut_91 : decode cX7_cut 91 = .ok (.bipush 15, 2) := by decide +kernel
theorem dX7_cut_93 : decode cX7_cut 93 = .ok (.aload_n 0, 1) := by decide +kernel
theorem dX7_cut_94 : decode cX7_cut 94 = .ok (.getfield 7, 3) := by decide +kernel
theorem dX7_cut_97 : decode cX7_cut 97 = .ok (.iconst 0, 1) := by decide +kernel
theorem dX7_cut_98 : decode cX7_cut 98 = .ok (.iaload, 1) := by decide +kernel
theorem dX7_cut_99 : decode cX7_cut 99 = .ok (.iadd, 1) := by decide +kernel
theorem dX7_cut_100 : decode cX7_cut 100 = .ok (.iconst 0, 1) := by decide +kernel
theorem dX7_cut_101 : decode cX7_cut 101 = .ok (.iastore, 1) := by decide +kernel
theorem dX7_cut_102 : decode cX7_cut 102 = .ok (.aload_n 0, 1) := by decide +kernel
theorem dX7_cut_103 : decode cX7_cut 103 = .ok (.getfield 7, 3) := by decide +kernel
theorem dX7_cut_106 : decode cX7_cut 106 = .ok (.iconst 0, 1) := by decide +kernel
theorem dX7_cut_107 : decode cX7_cut 107 = .ok (.iaload, 1) := by decide +kernel
theorem dX7_cut_108 : decode cX7_cut 108 = .ok (.ireturn, 1) := by decide +kernel
theorem dX7_turn_0 : decode cX7_turn 0 = .ok (.aload_n 0, 1) := by decide +kernel
theorem dX7_turn_1 : decode cX7_turn 1 = .ok (.invokevirtual 166, 3) := by decide +kernel
theorem dX7_turn_4 : decode cX7_turn 4 = .ok (.iconst 4, 1) := by decide +kernel
theorem dX7_turn_5 : decode cX7_turn 5 = .ok (.istore_n 1, 1) := by decide +kernel
theorem dX7_turn_6 : decode cX7_turn 6 = .ok (.iconst 4, 1) := by decide +kernel
theorem dX7_turn_7 : decode cX7_turn 7 = .ok (.aload_n 0, 1) := by decide +kernel
theorem dX7_turn_8 : decode cX7_turn 8 = .ok (.invokevirtual 61, 3) := by decide +kernel
theorem dX7_turn_11 : decode cX7_turn 11 = .ok (.iadd, 1) := by decide +kernel
theorem dX7_turn_12 : decode cX7_turn 12 = .ok (.iconst 1, 1) := by decide +kernel
theorem dX7_turn_13 : decode cX7_turn 13 = .ok (.isub, 1) := by decide +kernel
theorem dX7_turn_14 : decode cX7_turn 14 = .ok (.istore_n 2, 1) := by decide +kernel
theorem dX7_turn_15 : decode cX7_turn 15 = .ok (.iload_n 1, 1) := by decide +kernel
theorem dX7_turn_16 : decode cX7_turn 16 = .ok (.iload_n 2, 1) := by decide +kernel
theorem dX7_turn_17 : decode cX7_turn 17 = .ok (.if_icmp .ge 38, 3) := by decide +kernel
theorem dX7_turn_20 : decode cX7_turn 20 = .ok (.aload_n 0, 1) := by decide +kernel
theorem dX7_turn_21 : decode cX7_turn 21 = .ok (.getfield 7, 3) := by decide +kernel
theorem dX7_turn_24 : decode cX7_turn 24 = .ok (.iload_n 1, 1) := by decide +kernel
theorem dX7_turn_25 : decode cX7_turn 25 = .ok (.iaload, 1) := by decide +kernel
theorem dX7_turn_26 : decode cX7_turn 26 = .ok (.istore_n 3, 1) := by decide +kernel
theorem dX7_turn_27 : decode cX7_turn 27 = .ok (.aload_n 0, 1) := by decide +kernel
theorem dX7_turn_28 : decode cX7_turn 28 = .ok (.getfield 7, 3) := by decide +kernel
theorem dX7_turn_31 : decode cX7_turn 31 = .ok (.iload_n 1, 1) := by decide +kernel
theorem dX7_turn_32 : decode cX7_turn 32 = .ok (.aload_n 0, 1) := by decide +kernel
theorem dX7_turn_33 : decode cX7_turn 33 = .ok (.getfield 7, 3) := by decide +kernel
theorem dX7_turn_36 : decode cX7_turn 36 = .ok (.iload_n 2, 1) := by decide +kernel
theorem dX7_turn_37 : decode cX7_turn 37 = .ok (.iaload, 1) := by decide +kernel
theorem dX7_turn_38 : decode cX7_turn 38 = .ok (.iastore, 1) := by decide +kernel
theorem dX7_turn_39 : decode cX7_turn 39 = .ok (.aload_n 0, 1) := by decide +kernel
theorem dX7_turn_40 : decode cX7_turn 40 = .ok (.getfield 7, 3) := by decide +kernel
theorem dX7_turn_43 : decode cX7_turn 43 = .ok (.iload_n 2, 1) := by decide +kernel
theorem dX7_turn_44 : decode cX7_turn 44 = .ok (.iload_n 3, 1) := by decide +kernel
theorem dX7_turn_45 : decode cX7_turn 45 = .ok (.iastore, 1) := by decide +kernel
theorem dX7_turn_46 : decode cX7_turn 46 = .ok (.iinc 1 1, 3) := by decide +kernel
theorem dX7_turn_49 : decode cX7_turn 49 = .ok (.iinc 2 (-1), 3) := by decide +kernel
theorem dX7_turn_52 : decode cX7_turn 52 = .ok (.goto (-37), 3) := by decide +kernel
theorem dX7_turn_55 : decode cX7_turn 55 = .ok (.aload_n 0, 1) := by decide +kernel
theorem dX7_turn_56 : decode cX7_turn 56 = .ok (.aload_n 0, 1) := by decide +kernel
theorem dX7_turn_57 : decode cX7_turn 57 = .ok (.getfield 7, 3) := by decide +kernel
theorem dX7_turn_60 : decode cX7_turn 60 = .ok (.iconst 0, 1) := by decide +kernel
theorem dX7_turn_61 : decode cX7_turn 61 = .ok (.iaload, 1) := by decide +kernel
theorem dX7_turn_62 : decode cX7_turn 62 = .ok (.invokevirtual 117, 3) := by decide +kernel
theorem dX7_turn_65 : decode cX7_turn 65 = .ok (.ireturn, 1) := by decide +kernel
theorem dX7_drift_0 : decode cX7_drift 0 = .ok (.iload_n 1, 1) := by decide +kernel
theorem dX7_drift_1 : decode cX7_drift 1 = .ok (.i2l, 1) := by decide +kernel
theorem dX7_drift_2 : decode cX7_drift 2 = .ok (.lconst 1, 1) := by decide +kernel
theorem dX7_drift_3 : decode cX7_drift 3 = .ok (.ldc2_w 171, 3) := by decide +kernel
theorem dX7_drift_6 : decode cX7_drift 6 = .ok (.invokestatic 57, 3) := by decide +kernel
theorem dX7_drift_9 : decode cX7_drift 9 = .ok (.ifCond .ne 5, 3) := by decide +kernel
theorem dX7_drift_12 : decode cX7_drift 12 = .ok (.iconst (-1), 1) := by decide +kernel
theorem dX7_drift_13 : decode cX7_drift 13 = .ok (.ireturn, 1) := by decide +kernel
theorem dX7_drift_14 : decode cX7_drift 14 = .ok (.iconst 0, 1) := by decide +kernel
theorem dX7_drift_15 : decode cX7_drift 15 = .ok (.istore_n 2, 1) := by decide +kernel
theorem dX7_drift_16 : decode cX7_drift 16 = .ok (.iload_n 2, 1) := by decide +kernel
theorem dX7_drift_17 : decode cX7_drift 17 = .ok (.iload_n 1, 1) := by decide +kernel
theorem dX7_drift_18 : decode cX7_drift 18 = .ok (.if_icmp .ge 79, 3) := by decide +kernel
theorem dX7_drift_21 : decode cX7_drift 21 = .ok (.aload_n 0, 1) := by decide +kernel
theorem dX7_drift_22 : decode cX7_drift 22 = .ok (.invokevirtual 166, 3) := by decide +kernel
theorem dX7_drift_25 : decode cX7_drift 25 = .ok (.aload_n 0, 1) := by decide +kernel
theorem dX7_drift_26 : decode cX7_drift 26 = .ok (.getfield 7, 3) := by decide +kernel
theorem dX7_drift_29 : decode cX7_drift 29 = .ok (.iconst 3, 1) := by decide +kernel
theorem dX7_drift_30 : decode cX7_drift 30 = .ok (.iaload, 1) := by decide +kernel
theorem dX7_drift_31 : decode cX7_drift 31 = .ok (.i2l, 1) := by decide +kernel
theorem dX7_drift_32 : decode cX7_drift 32 = .ok (.ldc2_w 173, 3) := by decide +kernel
theorem dX7_drift_35 : decode cX7_drift 35 = .ok (.lmul, 1) := by decide +kernel
theorem dX7_drift_36 : decode cX7_drift 36 = .ok (.ldc2_w 175, 3) := by decide +kernel
theorem dX7_drift_39 : decode cX7_drift 39 = .ok (.ladd, 1) := by decide +kernel
theorem dX7_drift_40 : decode cX7_drift 40 = .ok (.ldc2_w 177, 3) := by decide +kernel
theorem dX7_drift_43 : decode cX7_drift 43 = .ok (.lrem, 1) := by decide +kernel
theorem dX7_drift_44 : decode cX7_drift 44 = .ok (.lstore_n 3, 1) := by decide +kernel
theorem dX7_drift_45 : decode cX7_drift 45 = .ok (.aload_n 0, 1) := by decide +kernel
theorem dX7_drift_46 : decode cX7_drift 46 = .ok (.getfield 7, 3) := by decide +kernel
theorem dX7_drift_49 : decode cX7_drift 49 = .ok (.iconst 3, 1) := by decide +kernel
theorem dX7_drift_50 : decode cX7_drift 50 = .ok (.lload_n 3, 1) := by decide +kernel
theorem dX7_drift_51 : decode cX7_drift 51 = .ok (.l2i, 1) := by decide +kernel
theorem dX7_drift_52 : decode cX7_drift 52 = .ok (.iastore, 1) := by decide +kernel
theorem dX7_drift_53 : decode cX7_drift 53 = .ok (.aload_n 0, 1) := by decide +kernel
theorem dX7_drift_54 : decode cX7_drift 54 = .ok (.getfield 7, 3) := by decide +kernel
theorem dX7_drift_57 : decode cX7_drift 57 = .ok (.iconst 4, 1) := by decide +kernel
theorem dX7_drift_58 : decode cX7_drift 58 = .ok (.aload_n 0, 1) := by decide +kernel
theorem dX7_drift_59 : decode cX7_drift 59 = .ok (.getfield 7, 3) := by decide +kernel
theorem dX7_drift_62 : decode cX7_drift 62 = .ok (.iconst 3, 1) := by decide +kernel
theorem dX7_drift_63 : decode cX7_drift 63 = .ok (.iaload, 1) := by decide +kernel
theorem dX7_drift_64 : decode cX7_drift 64 = .ok (.ldc 179, 2) := by decide +kernel
theorem dX7_drift_66 : decode cX7_drift 66 = .ok (.idiv, 1) := by decide +kernel
theorem dX7_drift_67 : decode cX7_drift 67 = .ok (.aload_n 0, 1) := by decide +kernel
theorem dX7_drift_68 : decode cX7_drift 68 = .ok (.invokevirtual 61, 3) := by decide +kernel
theorem dX7_drift_71 : decode cX7_drift 71 = .ok (.irem, 1) := by decide +kernel
theorem dX7_drift_72 : decode cX7_drift 72 = .ok (.iadd, 1) := by decide +kernel
theorem dX7_drift_73 : decode cX7_drift 73 = .ok (.aload_n 0, 1) := by decide +kernel
theorem dX7_drift_74 : decode cX7_drift 74 = .ok (.getfield 7, 3) := by decide +kernel
theorem dX7_drift_77 : decode cX7_drift 77 = .ok (.iconst 3, 1) := by decide +kernel
theorem dX7_drift_78 : decode cX7_drift 78 = .ok (.iaload, 1) := by decide +kernel
theorem dX7_drift_79 : decode cX7_drift 79 = .ok (.sipush 256, 3) := by decide +kernel
theorem dX7_drift_82 : decode cX7_drift 82 = .ok (.idiv, 1) := by decide +kernel
theorem dX7_drift_83 : decode cX7_drift 83 = .ok (.aload_n 0, 1) := by decide +kernel
theorem dX7_drift_84 : decode cX7_drift 84 = .ok (.getfield 7, 3) := by decide +kernel
theorem dX7_drift_87 : decode cX7_drift 87 = .ok (.iconst 2, 1) := by decide +kernel
theorem dX7_drift_88 : decode cX7_drift 88 = .ok (.iaload, 1) := by decide +kernel
theorem dX7_drift_89 : decode cX7_drift 89 = .ok (.irem, 1) := by decide +kernel
theorem dX7_drift_90 : decode cX7_drift 90 = .ok (.iastore, 1) := by decide +kernel
theorem dX7_drift_91 : decode cX7_drift 91 = .ok (.iinc 2 1, 3) := by decide +kernel
theorem dX7_drift_94 : decode cX7_drift 94 = .ok (.goto (-78), 3) := by decide +kernel
theorem dX7_drift_97 : decode cX7_drift 97 = .ok (.aload_n 0, 1) := by decide +kernel
theorem dX7_drift_98 : decode cX7_drift 98 = .ok (.aload_n 0, 1) := by decide +kernel
theorem dX7_drift_99 : decode cX7_drift 99 = .ok (.getfield 7, 3) := by decide +kernel
theorem dX7_drift_102 : decode cX7_drift 102 = .ok (.iconst 0, 1) := by decide +kernel
theorem dX7_drift_103 : decode cX7_drift 103 = .ok (.iaload, 1) := by decide +kernel
theorem dX7_drift_104 : decode cX7_drift 104 = .ok (.invokevirtual 117, 3) := by decide +kernel
theorem dX7_drift_107 : decode cX7_drift 107 = .ok (.ireturn, 1) := by decide +kernel
theorem dX7_undo_0 : decode cX7_undo 0 = .ok (.aload_n 0, 1) := by decide +kernel
theorem dX7_undo_1 : decode cX7_undo 1 = .ok (.getfield 108, 3) := by decide +kernel
theorem dX7_undo_4 : decode cX7_undo 4 = .ok (.ifCond .ne 6, 3) := by decide +kernel
theorem dX7_undo_7 : decode cX7_undo 7 = .ok (.bipush (-4), 2) := by decide +kernel
theorem dX7_undo_9 : decode cX7_undo 9 = .ok (.ireturn, 1) := by decide +kernel
theorem dX7_undo_10 : decode cX7_undo 10 = .ok (.aload_n 0, 1) := by decide +kernel
theorem dX7_undo_11 : decode cX7_undo 11 = .ok (.dup, 1) := by decide +kernel
theorem dX7_undo_12 : decode cX7_undo 12 = .ok (.getfield 108, 3) := by decide +kernel
theorem dX7_undo_15 : decode cX7_undo 15 = .ok (.iconst 1, 1) := by decide +kernel
theorem dX7_undo_16 : decode cX7_undo 16 = .ok (.isub, 1) := by decide +kernel
theorem dX7_undo_17 : decode cX7_undo 17 = .ok (.putfield 108, 3) := by decide +kernel
theorem dX7_undo_20 : decode cX7_undo 20 = .ok (.iconst 0, 1) := by decide +kernel
theorem dX7_undo_21 : decode cX7_undo 21 = .ok (.istore_n 1, 1) := by decide +kernel
theorem dX7_undo_22 : decode cX7_undo 22 = .ok (.iload_n 1, 1) := by decide +kernel
theorem dX7_undo_23 : decode cX7_undo 23 = .ok (.bipush 21, 2) := by decide +kernel
theorem dX7_undo_25 : decode cX7_undo 25 = .ok (.if_icmp .ge 29, 3) := by decide +kernel
theorem dX7_undo_28 : decode cX7_undo 28 = .ok (.aload_n 0, 1) := by decide +kernel
theorem dX7_undo_29 : decode cX7_undo 29 = .ok (.getfield 7, 3) := by decide +kernel
theorem dX7_undo_32 : decode cX7_undo 32 = .ok (.iload_n 1, 1) := by decide +kernel
theorem dX7_undo_33 : decode cX7_undo 33 = .ok (.aload_n 0, 1) := by decide +kernel
theorem dX7_undo_34 : decode cX7_undo 34 = .ok (.getfield 25, 3) := by decide +kernel
theorem dX7_undo_37 : decode cX7_undo 37 = .ok (.bipush 21, 2) := by decide +kernel
theorem dX7_undo_39 : decode cX7_undo 39 = .ok (.aload_n 0, 1) := by decide +kernel
theorem dX7_undo_40 : decode cX7_undo 40 = .ok (.getfield 108, 3) := by decide +kernel
theorem dX7_undo_43 : decode cX7_undo 43 = .ok (.imul, 1) := by decide +kernel
theorem dX7_undo_44 : decode cX7_undo 44 = .ok (.iload_n 1, 1) := by decide +kernel
theorem dX7_undo_45 : decode cX7_undo 45 = .ok (.iadd, 1) := by decide +kernel
theorem dX7_undo_46 : decode cX7_undo 46 = .ok (.iaload, 1) := by decide +kernel
theorem dX7_undo_47 : decode cX7_undo 47 = .ok (.iastore, 1) := by decide +kernel
theorem dX7_undo_48 : decode cX7_undo 48 = .ok (.iinc 1 1, 3) := by decide +kernel
theorem dX7_undo_51 : decode cX7_undo 51 = .ok (.goto (-29), 3) := by decide +kernel
theorem dX7_undo_54 : decode cX7_undo 54 = .ok (.aload_n 0, 1) := by decide +kernel
theorem dX7_undo_55 : decode cX7_undo 55 = .ok (.getfield 108, 3) := by decide +kernel
theorem dX7_undo_58 : decode cX7_undo 58 = .ok (.ireturn, 1) := by decide +kernel
theorem dX7_seed_0 : decode cX7_seed 0 = .ok (.iload_n 1, 1) := by decide +kernel
theorem dX7_seed_1 : decode cX7_seed 1 = .ok (.ifCond .ge 5, 3) := by decide +kernel
theorem dX7_seed_4 : decode cX7_seed 4 = .ok (.iconst (-1), 1) := by decide +kernel
theorem dX7_seed_5 : decode cX7_seed 5 = .ok (.ireturn, 1) := by decide +kernel
theorem dX7_seed_6 : decode cX7_seed 6 = .ok (.aload_n 0, 1) := by decide +kernel
theorem dX7_seed_7 : decode cX7_seed 7 = .ok (.getfield 7, 3) := by decide +kernel
theorem dX7_seed_10 : decode cX7_seed 10 = .ok (.iconst 3, 1) := by decide +kernel
theorem dX7_seed_11 : decode cX7_seed 11 = .ok (.iaload, 1) := by decide +kernel
theorem dX7_seed_12 : decode cX7_seed 12 = .ok (.istore_n 2, 1) := by decide +kernel
theorem dX7_seed_13 : decode cX7_seed 13 = .ok (.aload_n 0, 1) := by decide +kernel
theorem dX7_seed_14 : decode cX7_seed 14 = .ok (.getfield 7, 3) := by decide +kernel
theorem dX7_seed_17 : decode cX7_seed 17 = .ok (.iconst 3, 1) := by decide +kernel
theorem dX7_seed_18 : decode cX7_seed 18 = .ok (.iload_n 1, 1) := by decide +kernel
theorem dX7_seed_19 : decode cX7_seed 19 = .ok (.iastore, 1) := by decide +kernel
theorem dX7_seed_20 : decode cX7_seed 20 = .ok (.iload_n 2, 1) := by decide +kernel
theorem dX7_seed_21 : decode cX7_seed 21 = .ok (.ireturn, 1) := by decide +kernel
theorem dX7_corner_0 : decode cX7_corner 0 = .ok (.iload_n 1, 1) := by decide +kernel
theorem dX7_corner_1 : decode cX7_corner 1 = .ok (.i2l, 1) := by decide +kernel
theorem dX7_corner_2 : decode cX7_corner 2 = .ok (.lconst 0, 1) := by decide +kernel
theorem dX7_corner_3 : decode cX7_corner 3 = .ok (.aload_n 0, 1) := by decide +kernel
theorem dX7_corner_4 : decode cX7_corner 4 = .ok (.getfield 7, 3) := by decide +kernel
theorem dX7_corner_7 : decode cX7_corner 7 = .ok (.iconst 0, 1) := by decide +kernel
theorem dX7_corner_8 : decode cX7_corner 8 = .ok (.iaload, 1) := by decide +kernel
theorem dX7_corner_9 : decode cX7_corner 9 = .ok (.i2l, 1) := by decide +kernel
theorem dX7_corner_10 : decode cX7_corner 10 = .ok (.invokestatic 57, 3) := by decide +kernel
theorem dX7_corner_13 : decode cX7_corner 13 = .ok (.ifCond .eq 11, 3) := by decide +kernel
theorem dX7_corner_16 : decode cX7_corner 16 = .ok (.aload_n 0, 1) := by decide +kernel
theorem dX7_corner_17 : decode cX7_corner 17 = .ok (.iload_n 1, 1) := by decide +kernel
theorem dX7_corner_18 : decode cX7_corner 18 = .ok (.invokevirtual 117, 3) := by decide +kernel
theorem dX7_corner_21 : decode cX7_corner 21 = .ok (.goto 4, 3) := by decide +kernel
theorem dX7_corner_24 : decode cX7_corner 24 = .ok (.iconst (-1), 1) := by decide +kernel
theorem dX7_corner_25 : decode cX7_corner 25 = .ok (.ireturn, 1) := by decide +kernel
theorem dX7_leap_0 : decode cX7_leap 0 = .ok (.aload_n 0, 1) := by decide +kernel
theorem dX7_leap_1 : decode cX7_leap 1 = .ok (.iload_n 1, 1) := by decide +kernel
theorem dX7_leap_2 : decode cX7_leap 2 = .ok (.invokevirtual 114, 3) := by decide +kernel
theorem dX7_leap_5 : decode cX7_leap 5 = .ok (.ifCond .ne 5, 3) := by decide +kernel
theorem dX7_leap_8 : decode cX7_leap 8 = .ok (.iconst (-1), 1) := by decide +kernel
theorem dX7_leap_9 : decode cX7_leap 9 = .ok (.ireturn, 1) := by decide +kernel
theorem dX7_leap_10 : decode cX7_leap 10 = .ok (.iload_n 1, 1) := by decide +kernel
theorem dX7_leap_11 : decode cX7_leap 11 = .ok (.iconst 1, 1) := by decide +kernel
theorem dX7_leap_12 : decode cX7_leap 12 = .ok (.iadd, 1) := by decide +kernel
theorem dX7_leap_13 : decode cX7_leap 13 = .ok (.istore_n 2, 1) := by decide +kernel
theorem dX7_leap_14 : decode cX7_leap 14 = .ok (.iload_n 2, 1) := by decide +kernel
theorem dX7_leap_15 : decode cX7_leap 15 = .ok (.aload_n 0, 1) := by decide +kernel
theorem dX7_leap_16 : decode cX7_leap 16 = .ok (.getfield 7, 3) := by decide +kernel
theorem dX7_leap_19 : decode cX7_leap 19 = .ok (.iconst 0, 1) := by decide +kernel
theorem dX7_leap_20 : decode cX7_leap 20 = .ok (.iaload, 1) := by decide +kernel
theorem dX7_leap_21 : decode cX7_leap 21 = .ok (.if_icmp .gt 17, 3) := by decide +kernel
theorem dX7_leap_24 : decode cX7_leap 24 = .ok (.aload_n 0, 1) := by decide +kernel
theorem dX7_leap_25 : decode cX7_leap 25 = .ok (.iload_n 2, 1) := by decide +kernel
theorem dX7_leap_26 : decode cX7_leap 26 = .ok (.invokevirtual 117, 3) := by decide +kernel
theorem dX7_leap_29 : decode cX7_leap 29 = .ok (.ifCond .ne 9, 3) := by decide +kernel
theorem dX7_leap_32 : decode cX7_leap 32 = .ok (.iinc 2 1, 3) := by decide +kernel
theorem dX7_leap_35 : decode cX7_leap 35 = .ok (.goto (-21), 3) := by decide +kernel
theorem dX7_leap_38 : decode cX7_leap 38 = .ok (.iload_n 2, 1) := by decide +kernel
theorem dX7_leap_39 : decode cX7_leap 39 = .ok (.aload_n 0, 1) := by decide +kernel
theorem dX7_leap_40 : decode cX7_leap 40 = .ok (.getfield 7, 3) := by decide +kernel
theorem dX7_leap_43 : decode cX7_leap 43 = .ok (.iconst 0, 1) := by decide +kernel
theorem dX7_leap_44 : decode cX7_leap 44 = .ok (.iaload, 1) := by decide +kernel
theorem dX7_leap_45 : decode cX7_leap 45 = .ok (.if_icmp .le 8, 3) := by decide +kernel
theorem dX7_leap_48 : decode cX7_leap 48 = .ok (.bipush (-4), 2) := by decide +kernel
theorem dX7_leap_50 : decode cX7_leap 50 = .ok (.goto 6, 3) := by decide +kernel
theorem dX7_leap_53 : decode cX7_leap 53 = .ok (.iload_n 2, 1) := by decide +kernel
theorem dX7_leap_54 : decode cX7_leap 54 = .ok (.iload_n 1, 1) := by decide +kernel
theorem dX7_leap_55 : decode cX7_leap 55 = .ok (.isub, 1) := by decide +kernel
theorem dX7_leap_56 : decode cX7_leap 56 = .ok (.ireturn, 1) := by decide +kernel
theorem dX7_solved_0 : decode cX7_solved 0 = .ok (.iload_n 1, 1) := by decide +kernel
theorem dX7_solved_1 : decode cX7_solved 1 = .ok (.iconst (-1), 1) := by decide +kernel
theorem dX7_solved_2 : decode cX7_solved 2 = .ok (.if_icmp .eq 15, 3) := by decide +kernel
theorem dX7_solved_5 : decode cX7_solved 5 = .ok (.aload_n 0, 1) := by decide +kernel
theorem dX7_solved_6 : decode cX7_solved 6 = .ok (.iload_n 1, 1) := by decide +kernel
theorem dX7_solved_7 : decode cX7_solved 7 = .ok (.invokevirtual 114, 3) := by decide +kernel
theorem dX7_solved_10 : decode cX7_solved 10 = .ok (.ifCond .ne 7, 3) := by decide +kernel
theorem dX7_solved_13 : decode cX7_solved 13 = .ok (.ldc2_w 180, 3) := by decide +kernel
theorem dX7_solved_16 : decode cX7_solved 16 = .ok (.lreturn, 1) := by decide +kernel
theorem dX7_solved_17 : decode cX7_solved 17 = .ok (.aload_n 0, 1) := by decide +kernel
theorem dX7_solved_18 : decode cX7_solved 18 = .ok (.invokevirtual 182, 3) := by decide +kernel
theorem dX7_solved_21 : decode cX7_solved 21 = .ok (.lstore_n 2, 1) := by decide +kernel
theorem dX7_solved_22 : decode cX7_solved 22 = .ok (.iload_n 1, 1) := by decide +kernel
theorem dX7_solved_23 : decode cX7_solved 23 = .ok (.iconst (-1), 1) := by decide +kernel
theorem dX7_solved_24 : decode cX7_solved 24 = .ok (.if_icmp .ne 7, 3) := by decide +kernel
theorem dX7_solved_27 : decode cX7_solved 27 = .ok (.lload_n 2, 1) := by decide +kernel
theorem dX7_solved_28 : decode cX7_solved 28 = .ok (.goto 27, 3) := by decide +kernel
theorem dX7_solved_31 : decode cX7_solved 31 = .ok (.lload_n 2, 1) := by decide +kernel
theorem dX7_solved_32 : decode cX7_solved 32 = .ok (.lconst 0, 1) := by decide +kernel
theorem dX7_solved_33 : decode cX7_solved 33 = .ok (.lcmp, 1) := by decide +kernel
theorem dX7_solved_34 : decode cX7_solved 34 = .ok (.ifCond .ne 9, 3) := by decide +kernel
theorem dX7_solved_37 : decode cX7_solved 37 = .ok (.ldc2_w 186, 3) := by decide +kernel
theorem dX7_solved_40 : decode cX7_solved 40 = .ok (.goto 15, 3) := by decide +kernel
theorem dX7_solved_43 : decode cX7_solved 43 = .ok (.aload_n 0, 1) := by decide +kernel
theorem dX7_solved_44 : decode cX7_solved 44 = .ok (.iload_n 1, 1) := by decide +kernel
theorem dX7_solved_45 : decode cX7_solved 45 = .ok (.aload_n 0, 1) := by decide +kernel
theorem dX7_solved_46 : decode cX7_solved 46 = .ok (.getfield 7, 3) := by decide +kernel
theorem dX7_solved_49 : decode cX7_solved 49 = .ok (.iconst 0, 1) := by decide +kernel
theorem dX7_solved_50 : decode cX7_solved 50 = .ok (.iaload, 1) := by decide +kernel
theorem dX7_solved_51 : decode cX7_solved 51 = .ok (.invokevirtual 188, 3) := by decide +kernel
theorem dX7_solved_54 : decode cX7_solved 54 = .ok (.i2l, 1) := by decide +kernel
theorem dX7_solved_55 : decode cX7_solved 55 = .ok (.lreturn, 1) := by decide +kernel
theorem dX7_inverse_0 : decode cX7_inverse 0 = .ok (.aload_n 0, 1) := by decide +kernel
theorem dX7_inverse_1 : decode cX7_inverse 1 = .ok (.iload_n 1, 1) := by decide +kernel
theorem dX7_inverse_2 : decode cX7_inverse 2 = .ok (.invokevirtual 114, 3) := by decide +kernel
theorem dX7_inverse_5 : decode cX7_inverse 5 = .ok (.ifCond .eq 11, 3) := by decide +kernel
theorem dX7_inverse_8 : decode cX7_inverse 8 = .ok (.aload_n 0, 1) := by decide +kernel
theorem dX7_inverse_9 : decode cX7_inverse 9 = .ok (.iload_n 2, 1) := by decide +kernel
theorem dX7_inverse_10 : decode cX7_inverse 10 = .ok (.invokevirtual 114, 3) := by decide +kernel
theorem dX7_inverse_13 : decode cX7_inverse 13 = .ok (.ifCond .ne 5, 3) := by decide +kernel
theorem dX7_inverse_16 : decode cX7_inverse 16 = .ok (.iconst (-1), 1) := by decide +kernel
theorem dX7_inverse_17 : decode cX7_inverse 17 = .ok (.ireturn, 1) := by decide +kernel
theorem dX7_inverse_18 : decode cX7_inverse 18 = .ok (.aload_n 0, 1) := by decide +kernel
theorem dX7_inverse_19 : decode cX7_inverse 19 = .ok (.iload_n 2, 1) := by decide +kernel
theorem dX7_inverse_20 : decode cX7_inverse 20 = .ok (.invokevirtual 97, 3) := by decide +kernel
theorem dX7_inverse_23 : decode cX7_inverse 23 = .ok (.ifCond .eq 20, 3) := by decide +kernel
theorem dX7_inverse_26 : decode cX7_inverse 26 = .ok (.aload_n 0, 1) := by decide +kernel
theorem dX7_inverse_27 : decode cX7_inverse 27 = .ok (.getfield 87, 3) := by decide +kernel
theorem dX7_inverse_30 : decode cX7_inverse 30 = .ok (.aload_n 0, 1) := by decide +kernel
theorem dX7_inverse_31 : decode cX7_inverse 31 = .ok (.getfield 7, 3) := by decide +kernel
theorem dX7_inverse_34 : decode cX7_inverse 34 = .ok (.iconst 0, 1) := by decide +kernel
theorem dX7_inverse_35 : decode cX7_inverse 35 = .ok (.iaload, 1) := by decide +kernel
theorem dX7_inverse_36 : decode cX7_inverse 36 = .ok (.if_icmp .ne 7, 3) := by decide +kernel
theorem dX7_inverse_39 : decode cX7_inverse 39 = .ok (.iconst 1, 1) := by decide +kernel
theorem dX7_inverse_40 : decode cX7_inverse 40 = .ok (.goto 4, 3) := by decide +kernel
theorem dX7_inverse_43 : decode cX7_inverse 43 = .ok (.iconst 0, 1) := by decide +kernel
theorem dX7_inverse_44 : decode cX7_inverse 44 = .ok (.istore_n 3, 1) := by decide +kernel
theorem dX7_inverse_45 : decode cX7_inverse 45 = .ok (.iload_n 3, 1) := by decide +kernel
theorem dX7_inverse_46 : decode cX7_inverse 46 = .ok (.ifCond .eq 17, 3) := by decide +kernel
theorem dX7_inverse_49 : decode cX7_inverse 49 = .ok (.aload_n 0, 1) := by decide +kernel
theorem dX7_inverse_50 : decode cX7_inverse 50 = .ok (.iload_n 1, 1) := by decide +kernel
theorem dX7_inverse_51 : decode cX7_inverse 51 = .ok (.aload_n 0, 1) := by decide +kernel
theorem dX7_inverse_52 : decode cX7_inverse 52 = .ok (.getfield 7, 3) := by decide +kernel
theorem dX7_inverse_55 : decode cX7_inverse 55 = .ok (.iconst 0, 1) := by decide +kernel
theorem dX7_inverse_56 : decode cX7_inverse 56 = .ok (.iaload, 1) := by decide +kernel
theorem dX7_inverse_57 : decode cX7_inverse 57 = .ok (.invokevirtual 188, 3) := by decide +kernel
theorem dX7_inverse_60 : decode cX7_inverse 60 = .ok (.goto 5, 3) := by decide +kernel
theorem dX7_inverse_63 : decode cX7_inverse 63 = .ok (.bipush (-4), 2) := by decide +kernel
theorem dX7_inverse_65 : decode cX7_inverse 65 = .ok (.ireturn, 1) := by decide +kernel
theorem dX7_weak_0 : decode cX7_weak 0 = .ok (.aload_n 0, 1) := by decide +kernel
theorem dX7_weak_1 : decode cX7_weak 1 = .ok (.iload_n 1, 1) := by decide +kernel
theorem dX7_weak_2 : decode cX7_weak 2 = .ok (.invokevirtual 111, 3) := by decide +kernel
theorem dX7_weak_5 : decode cX7_weak 5 = .ok (.ifCond .eq 13, 3) := by decide +kernel
theorem dX7_weak_8 : decode cX7_weak 8 = .ok (.iload_n 2, 1) := by decide +kernel
theorem dX7_weak_9 : decode cX7_weak 9 = .ok (.i2l, 1) := by decide +kernel
theorem dX7_weak_10 : decode cX7_weak 10 = .ok (.lconst 0, 1) := by decide +kernel
theorem dX7_weak_11 : decode cX7_weak 11 = .ok (.lconst 1, 1) := by decide +kernel
theorem dX7_weak_12 : decode cX7_weak 12 = .ok (.invokestatic 57, 3) := by decide +kernel
theorem dX7_weak_15 : decode cX7_weak 15 = .ok (.ifCond .ne 5, 3) := by decide +kernel
theorem dX7_weak_18 : decode cX7_weak 18 = .ok (.iconst (-1), 1) := by decide +kernel
theorem dX7_weak_19 : decode cX7_weak 19 = .ok (.ireturn, 1) := by decide +kernel
theorem dX7_weak_20 : decode cX7_weak 20 = .ok (.aload_n 0, 1) := by decide +kernel
theorem dX7_weak_21 : decode cX7_weak 21 = .ok (.getfield 7, 3) := by decide +kernel
theorem dX7_weak_24 : decode cX7_weak 24 = .ok (.iconst 4, 1) := by decide +kernel
theorem dX7_weak_25 : decode cX7_weak 25 = .ok (.iload_n 1, 1) := by decide +kernel
theorem dX7_weak_26 : decode cX7_weak 26 = .ok (.iadd, 1) := by decide +kernel
theorem dX7_weak_27 : decode cX7_weak 27 = .ok (.iaload, 1) := by decide +kernel
theorem dX7_weak_28 : decode cX7_weak 28 = .ok (.istore_n 3, 1) := by decide +kernel
theorem dX7_weak_29 : decode cX7_weak 29 = .ok (.iconst 0, 1) := by decide +kernel
theorem dX7_weak_30 : decode cX7_weak 30 = .ok (.istore 4, 2) := by decide +kernel
theorem dX7_weak_32 : decode cX7_weak 32 = .ok (.bipush (-4), 2) := by decide +kernel
theorem dX7_weak_34 : decode cX7_weak 34 = .ok (.istore 5, 2) := by decide +kernel
theorem dX7_weak_36 : decode cX7_weak 36 = .ok (.iconst 0, 1) := by decide +kernel
theorem dX7_weak_37 : decode cX7_weak 37 = .ok (.istore 6, 2) := by decide +kernel
theorem dX7_weak_39 : decode cX7_weak 39 = .ok (.iload 6, 2) := by decide +kernel
theorem dX7_weak_41 : decode cX7_weak 41 = .ok (.aload_n 0, 1) := by decide +kernel
theorem dX7_weak_42 : decode cX7_weak 42 = .ok (.getfield 7, 3) := by decide +kernel
theorem dX7_weak_45 : decode cX7_weak 45 = .ok (.iconst 2, 1) := by decide +kernel
theorem dX7_weak_46 : decode cX7_weak 46 = .ok (.iaload, 1) := by decide +kernel
theorem dX7_weak_47 : decode cX7_weak 47 = .ok (.if_icmp .ge 49, 3) := by decide +kernel
theorem dX7_weak_50 : decode cX7_weak 50 = .ok (.aload_n 0, 1) := by decide +kernel
theorem dX7_weak_51 : decode cX7_weak 51 = .ok (.getfield 7, 3) := by decide +kernel
theorem dX7_weak_54 : decode cX7_weak 54 = .ok (.iconst 4, 1) := by decide +kernel
theorem dX7_weak_55 : decode cX7_weak 55 = .ok (.iload_n 1, 1) := by decide +kernel
theorem dX7_weak_56 : decode cX7_weak 56 = .ok (.iadd, 1) := by decide +kernel
theorem dX7_weak_57 : decode cX7_weak 57 = .ok (.iload 6, 2) := by decide +kernel
theorem dX7_weak_59 : decode cX7_weak 59 = .ok (.iastore, 1) := by decide +kernel
theorem dX7_weak_60 : decode cX7_weak 60 = .ok (.aload_n 0, 1) := by decide +kernel
theorem dX7_weak_61 : decode cX7_weak 61 = .ok (.aload_n 0, 1) := by decide +kernel
theorem dX7_weak_62 : decode cX7_weak 62 = .ok (.getfield 7, 3) := by decide +kernel
theorem dX7_weak_65 : decode cX7_weak 65 = .ok (.iconst 0, 1) := by decide +kernel
theorem dX7_weak_66 : decode cX7_weak 66 = .ok (.iaload, 1) := by decide +kernel
theorem dX7_weak_67 : decode cX7_weak 67 = .ok (.invokevirtual 117, 3) := by decide +kernel
theorem dX7_weak_70 : decode cX7_weak 70 = .ok (.ifCond .ne 20, 3) := by decide +kernel
theorem dX7_weak_73 : decode cX7_weak 73 = .ok (.iload 4, 2) := by decide +kernel
theorem dX7_weak_75 : decode cX7_weak 75 = .ok (.ifCond .ne 8, 3) := by decide +kernel
theorem dX7_weak_78 : decode cX7_weak 78 = .ok (.iload 6, 2) := by decide +kernel
theorem dX7_weak_80 : decode cX7_weak 80 = .ok (.goto 5, 3) := by decide +kernel
theorem dX7_weak_83 : decode cX7_weak 83 = .ok (.iload 5, 2) := by decide +kernel
theorem dX7_weak_85 : decode cX7_weak 85 = .ok (.istore 5, 2) := by decide +kernel
theorem dX7_weak_87 : decode cX7_weak 87 = .ok (.iinc 4 1, 3) := by decide +kernel
theorem dX7_weak_90 : decode cX7_weak 90 = .ok (.iinc 6 1, 3) := by decide +kernel
theorem dX7_weak_93 : decode cX7_weak 93 = .ok (.goto (-54), 3) := by decide +kernel
theorem dX7_weak_96 : decode cX7_weak 96 = .ok (.aload_n 0, 1) := by decide +kernel
theorem dX7_weak_97 : decode cX7_weak 97 = .ok (.getfield 7, 3) := by decide +kernel
theorem dX7_weak_100 : decode cX7_weak 100 = .ok (.iconst 4, 1) := by decide +kernel
theorem dX7_weak_101 : decode cX7_weak 101 = .ok (.iload_n 1, 1) := by decide +kernel
theorem dX7_weak_102 : decode cX7_weak 102 = .ok (.iadd, 1) := by decide +kernel
theorem dX7_weak_103 : decode cX7_weak 103 = .ok (.iload_n 3, 1) := by decide +kernel
theorem dX7_weak_104 : decode cX7_weak 104 = .ok (.iastore, 1) := by decide +kernel
theorem dX7_weak_105 : decode cX7_weak 105 = .ok (.iload_n 2, 1) := by decide +kernel
theorem dX7_weak_106 : decode cX7_weak 106 = .ok (.ifCond .ne 8, 3) := by decide +kernel
theorem dX7_weak_109 : decode cX7_weak 109 = .ok (.iload 4, 2) := by decide +kernel
theorem dX7_weak_111 : decode cX7_weak 111 = .ok (.goto 5, 3) := by decide +kernel
theorem dX7_weak_114 : decode cX7_weak 114 = .ok (.iload 5, 2) := by decide +kernel
theorem dX7_weak_116 : decode cX7_weak 116 = .ok (.ireturn, 1) := by decide +kernel
theorem dX7_mends_0 : decode cX7_mends 0 = .ok (.aload_n 0, 1) := by decide +kernel
theorem dX7_mends_1 : decode cX7_mends 1 = .ok (.getfield 7, 3) := by decide +kernel
theorem dX7_mends_4 : decode cX7_mends 4 = .ok (.iconst 4, 1) := by decide +kernel
theorem dX7_mends_5 : decode cX7_mends 5 = .ok (.iload_n 1, 1) := by decide +kernel
theorem dX7_mends_6 : decode cX7_mends 6 = .ok (.iadd, 1) := by decide +kernel
theorem dX7_mends_7 : decode cX7_mends 7 = .ok (.iaload, 1) := by decide +kernel
theorem dX7_mends_8 : decode cX7_mends 8 = .ok (.istore_n 2, 1) := by decide +kernel
theorem dX7_mends_9 : decode cX7_mends 9 = .ok (.bipush (-4), 2) := by decide +kernel
theorem dX7_mends_11 : decode cX7_mends 11 = .ok (.istore_n 3, 1) := by decide +kernel
theorem dX7_mends_12 : decode cX7_mends 12 = .ok (.iconst 0, 1) := by decide +kernel
theorem dX7_mends_13 : decode cX7_mends 13 = .ok (.istore 4, 2) := by decide +kernel
theorem dX7_mends_15 : decode cX7_mends 15 = .ok (.iload 4, 2) := by decide +kernel
theorem dX7_mends_17 : decode cX7_mends 17 = .ok (.aload_n 0, 1) := by decide +kernel
theorem dX7_mends_18 : decode cX7_mends 18 = .ok (.getfield 7, 3) := by decide +kernel
theorem dX7_mends_21 : decode cX7_mends 21 = .ok (.iconst 2, 1) := by decide +kernel
theorem dX7_mends_22 : decode cX7_mends 22 = .ok (.iaload, 1) := by decide +kernel
theorem dX7_mends_23 : decode cX7_mends 23 = .ok (.if_icmp .ge 51, 3) := by decide +kernel
theorem dX7_mends_26 : decode cX7_mends 26 = .ok (.iload_n 3, 1) := by decide +kernel
theorem dX7_mends_27 : decode cX7_mends 27 = .ok (.bipush (-4), 2) := by decide +kernel
theorem dX7_mends_29 : decode cX7_mends 29 = .ok (.if_icmp .ne 45, 3) := by decide +kernel
theorem dX7_mends_32 : decode cX7_mends 32 = .ok (.aload_n 0, 1) := by decide +kernel
theorem dX7_mends_33 : decode cX7_mends 33 = .ok (.getfield 7, 3) := by decide +kernel
theorem dX7_mends_36 : decode cX7_mends 36 = .ok (.iconst 4, 1) := by decide +kernel
theorem dX7_mends_37 : decode cX7_mends 37 = .ok (.iload_n 1, 1) := by decide +kernel
theorem dX7_mends_38 : decode cX7_mends 38 = .ok (.iadd, 1) := by decide +kernel
theorem dX7_mends_39 : decode cX7_mends 39 = .ok (.iload 4, 2) := by decide +kernel
theorem dX7_mends_41 : decode cX7_mends 41 = .ok (.iastore, 1) := by decide +kernel
theorem dX7_mends_42 : decode cX7_mends 42 = .ok (.iload 4, 2) := by decide +kernel
theorem dX7_mends_44 : decode cX7_mends 44 = .ok (.iload_n 2, 1) := by decide +kernel
theorem dX7_mends_45 : decode cX7_mends 45 = .ok (.if_icmp .eq 21, 3) := by decide +kernel
theorem dX7_mends_48 : decode cX7_mends 48 = .ok (.aload_n 0, 1) := by decide +kernel
theorem dX7_mends_49 : decode cX7_mends 49 = .ok (.aload_n 0, 1) := by decide +kernel
theorem dX7_mends_50 : decode cX7_mends 50 = .ok (.getfield 7, 3) := by decide +kernel
theorem dX7_mends_53 : decode cX7_mends 53 = .ok (.iconst 0, 1) := by decide +kernel
theorem dX7_mends_54 : decode cX7_mends 54 = .ok (.iaload, 1) := by decide +kernel
theorem dX7_mends_55 : decode cX7_mends 55 = .ok (.invokevirtual 117, 3) := by decide +kernel
theorem dX7_mends_58 : decode cX7_mends 58 = .ok (.ifCond .eq 8, 3) := by decide +kernel
theorem dX7_mends_61 : decode cX7_mends 61 = .ok (.iload 4, 2) := by decide +kernel
theorem dX7_mends_63 : decode cX7_mends 63 = .ok (.goto 4, 3) := by decide +kernel
theorem dX7_mends_66 : decode cX7_mends 66 = .ok (.iload_n 3, 1) := by decide +kernel
theorem dX7_mends_67 : decode cX7_mends 67 = .ok (.istore_n 3, 1) := by decide +kernel
theorem dX7_mends_68 : decode cX7_mends 68 = .ok (.iinc 4 1, 3) := by decide +kernel
theorem dX7_mends_71 : decode cX7_mends 71 = .ok (.goto (-56), 3) := by decide +kernel
theorem dX7_mends_74 : decode cX7_mends 74 = .ok (.aload_n 0, 1) := by decide +kernel
theorem dX7_mends_75 : decode cX7_mends 75 = .ok (.getfield 7, 3) := by decide +kernel
theorem dX7_mends_78 : decode cX7_mends 78 = .ok (.iconst 4, 1) := by decide +kernel
theorem dX7_mends_79 : decode cX7_mends 79 = .ok (.iload_n 1, 1) := by decide +kernel
theorem dX7_mends_80 : decode cX7_mends 80 = .ok (.iadd, 1) := by decide +kernel
theorem dX7_mends_81 : decode cX7_mends 81 = .ok (.iload_n 2, 1) := by decide +kernel
theorem dX7_mends_82 : decode cX7_mends 82 = .ok (.iastore, 1) := by decide +kernel
theorem dX7_mends_83 : decode cX7_mends 83 = .ok (.iload_n 3, 1) := by decide +kernel
theorem dX7_mends_84 : decode cX7_mends 84 = .ok (.ireturn, 1) := by decide +kernel
theorem dX7_mend_0 : decode cX7_mend 0 = .ok (.iload_n 1, 1) := by decide +kernel
theorem dX7_mend_1 : decode cX7_mend 1 = .ok (.i2l, 1) := by decide +kernel
theorem dX7_mend_2 : decode cX7_mend 2 = .ok (.lconst 0, 1) := by decide +kernel
theorem dX7_mend_3 : decode cX7_mend 3 = .ok (.lconst 1, 1) := by decide +kernel
theorem dX7_mend_4 : decode cX7_mend 4 = .ok (.invokestatic 57, 3) := by decide +kernel
theorem dX7_mend_7 : decode cX7_mend 7 = .ok (.ifCond .ne 5, 3) := by decide +kernel
theorem dX7_mend_10 : decode cX7_mend 10 = .ok (.iconst (-1), 1) := by decide +kernel
theorem dX7_mend_11 : decode cX7_mend 11 = .ok (.ireturn, 1) := by decide +kernel
theorem dX7_mend_12 : decode cX7_mend 12 = .ok (.aload_n 0, 1) := by decide +kernel
theorem dX7_mend_13 : decode cX7_mend 13 = .ok (.aload_n 0, 1) := by decide +kernel
theorem dX7_mend_14 : decode cX7_mend 14 = .ok (.getfield 7, 3) := by decide +kernel
theorem dX7_mend_17 : decode cX7_mend 17 = .ok (.iconst 0, 1) := by decide +kernel
theorem dX7_mend_18 : decode cX7_mend 18 = .ok (.iaload, 1) := by decide +kernel
theorem dX7_mend_19 : decode cX7_mend 19 = .ok (.invokevirtual 117, 3) := by decide +kernel
theorem dX7_mend_22 : decode cX7_mend 22 = .ok (.ifCond .eq 6, 3) := by decide +kernel
theorem dX7_mend_25 : decode cX7_mend 25 = .ok (.bipush (-2), 2) := by decide +kernel
theorem dX7_mend_27 : decode cX7_mend 27 = .ok (.ireturn, 1) := by decide +kernel
theorem dX7_mend_28 : decode cX7_mend 28 = .ok (.iconst 0, 1) := by decide +kernel
theorem dX7_mend_29 : decode cX7_mend 29 = .ok (.istore_n 2, 1) := by decide +kernel
theorem dX7_mend_30 : decode cX7_mend 30 = .ok (.aload_n 0, 1) := by decide +kernel
theorem dX7_mend_31 : decode cX7_mend 31 = .ok (.iconst 0, 1) := by decide +kernel
theorem dX7_mend_32 : decode cX7_mend 32 = .ok (.invokevirtual 191, 3) := by decide +kernel
theorem dX7_mend_35 : decode cX7_mend 35 = .ok (.istore_n 3, 1) := by decide +kernel
theorem dX7_mend_36 : decode cX7_mend 36 = .ok (.iload_n 3, 1) := by decide +kernel
theorem dX7_mend_37 : decode cX7_mend 37 = .ok (.bipush (-4), 2) := by decide +kernel
theorem dX7_mend_39 : decode cX7_mend 39 = .ok (.if_icmp .ne 25, 3) := by decide +kernel
theorem dX7_mend_42 : decode cX7_mend 42 = .ok (.iload_n 2, 1) := by decide +kernel
theorem dX7_mend_43 : decode cX7_mend 43 = .ok (.iconst 1, 1) := by decide +kernel
theorem dX7_mend_44 : decode cX7_mend 44 = .ok (.iadd, 1) := by decide +kernel
theorem dX7_mend_45 : decode cX7_mend 45 = .ok (.aload_n 0, 1) := by decide +kernel
theorem dX7_mend_46 : decode cX7_mend 46 = .ok (.invokevirtual 61, 3) := by decide +kernel
theorem dX7_mend_49 : decode cX7_mend 49 = .ok (.if_icmp .ge 15, 3) := by decide +kernel
theorem dX7_mend_52 : decode cX7_mend 52 = .ok (.iinc 2 1, 3) := by decide +kernel
theorem dX7_mend_55 : decode cX7_mend 55 = .ok (.aload_n 0, 1) := by decide +kernel
theorem dX7_mend_56 : decode cX7_mend 56 = .ok (.iload_n 2, 1) := by decide +kernel
theorem dX7_mend_57 : decode cX7_mend 57 = .ok (.invokevirtual 191, 3) := by decide +kernel
theorem dX7_mend_60 : decode cX7_mend 60 = .ok (.istore_n 3, 1) := by decide +kernel
theorem dX7_mend_61 : decode cX7_mend 61 = .ok (.goto (-25), 3) := by decide +kernel
theorem dX7_mend_64 : decode cX7_mend 64 = .ok (.iload_n 1, 1) := by decide +kernel
theorem dX7_mend_65 : decode cX7_mend 65 = .ok (.iconst 1, 1) := by decide +kernel
theorem dX7_mend_66 : decode cX7_mend 66 = .ok (.if_icmp .eq 9, 3) := by decide +kernel
theorem dX7_mend_69 : decode cX7_mend 69 = .ok (.iload_n 3, 1) := by decide +kernel
theorem dX7_mend_70 : decode cX7_mend 70 = .ok (.bipush (-4), 2) := by decide +kernel
theorem dX7_mend_72 : decode cX7_mend 72 = .ok (.if_icmp .ne 7, 3) := by decide +kernel
theorem dX7_mend_75 : decode cX7_mend 75 = .ok (.iload_n 3, 1) := by decide +kernel
theorem dX7_mend_76 : decode cX7_mend 76 = .ok (.goto 4, 3) := by decide +kernel
theorem dX7_mend_79 : decode cX7_mend 79 = .ok (.iload_n 2, 1) := by decide +kernel
theorem dX7_mend_80 : decode cX7_mend 80 = .ok (.ireturn, 1) := by decide +kernel
theorem dX7_isLaw_0 : decode cX7_isLaw 0 = .ok (.aload_n 0, 1) := by decide +kernel
theorem dX7_isLaw_1 : decode cX7_isLaw 1 = .ok (.invokevirtual 61, 3) := by decide +kernel
theorem dX7_isLaw_4 : decode cX7_isLaw 4 = .ok (.istore_n 2, 1) := by decide +kernel
theorem dX7_isLaw_5 : decode cX7_isLaw 5 = .ok (.iconst 0, 1) := by decide +kernel
theorem dX7_isLaw_6 : decode cX7_isLaw 6 = .ok (.istore_n 3, 1) := by decide +kernel
theorem dX7_isLaw_7 : decode cX7_isLaw 7 = .ok (.iload_n 3, 1) := by decide +kernel
theorem dX7_isLaw_8 : decode cX7_isLaw 8 = .ok (.iload_n 2, 1) := by decide +kernel
theorem dX7_isLaw_9 : decode cX7_isLaw 9 = .ok (.iload_n 1, 1) := by decide +kernel
theorem dX7_isLaw_10 : decode cX7_isLaw 10 = .ok (.isub, 1) := by decide +kernel
theorem dX7_isLaw_11 : decode cX7_isLaw 11 = .ok (.if_icmp .ge 83, 3) := by decide +kernel
theorem dX7_isLaw_14 : decode cX7_isLaw 14 = .ok (.iconst 0, 1) := by decide +kernel
theorem dX7_isLaw_15 : decode cX7_isLaw 15 = .ok (.istore 4, 2) := by decide +kernel
theorem dX7_isLaw_17 : decode cX7_isLaw 17 = .ok (.iload 4, 2) := by decide +kernel
theorem dX7_isLaw_19 : decode cX7_isLaw 19 = .ok (.bipush 13, 2) := by decide +kernel
theorem dX7_isLaw_21 : decode cX7_isLaw 21 = .ok (.if_icmp .ge 46, 3) := by decide +kernel
theorem dX7_isLaw_24 : decode cX7_isLaw 24 = .ok (.aload_n 0, 1) := by decide +kernel
theorem dX7_isLaw_25 : decode cX7_isLaw 25 = .ok (.getfield 13, 3) := by decide +kernel
theorem dX7_isLaw_28 : decode cX7_isLaw 28 = .ok (.bipush 13, 2) := by decide +kernel
theorem dX7_isLaw_30 : decode cX7_isLaw 30 = .ok (.iload_n 3, 1) := by decide +kernel
theorem dX7_isLaw_31 : decode cX7_isLaw 31 = .ok (.imul, 1) := by decide +kernel
theorem dX7_isLaw_32 : decode cX7_isLaw 32 = .ok (.iload 4, 2) := by decide +kernel
theorem dX7_isLaw_34 : decode cX7_isLaw 34 = .ok (.iadd, 1) := by decide +kernel
theorem dX7_isLaw_35 : decode cX7_isLaw 35 = .ok (.iload 4, 2) := by decide +kernel
theorem dX7_isLaw_37 : decode cX7_isLaw 37 = .ok (.iload_n 1, 1) := by decide +kernel
theorem dX7_isLaw_38 : decode cX7_isLaw 38 = .ok (.if_icmp .ge 21, 3) := by decide +kernel
theorem dX7_isLaw_41 : decode cX7_isLaw 41 = .ok (.aload_n 0, 1) := by decide +kernel
theorem dX7_isLaw_42 : decode cX7_isLaw 42 = .ok (.getfield 7, 3) := by decide +kernel
theorem dX7_isLaw_45 : decode cX7_isLaw 45 = .ok (.iconst 4, 1) := by decide +kernel
theorem dX7_isLaw_46 : decode cX7_isLaw 46 = .ok (.iload_n 1, 1) := by decide +kernel
theorem dX7_isLaw_47 : decode cX7_isLaw 47 = .ok (.iadd, 1) := by decide +kernel
theorem dX7_isLaw_48 : decode cX7_isLaw 48 = .ok (.iload_n 3, 1) := by decide +kernel
theorem dX7_isLaw_49 : decode cX7_isLaw 49 = .ok (.iadd, 1) := by decide +kernel
theorem dX7_isLaw_50 : decode cX7_isLaw 50 = .ok (.iconst 1, 1) := by decide +kernel
theorem dX7_isLaw_51 : decode cX7_isLaw 51 = .ok (.isub, 1) := by decide +kernel
theorem dX7_isLaw_52 : decode cX7_isLaw 52 = .ok (.iload 4, 2) := by decide +kernel
theorem dX7_isLaw_54 : decode cX7_isLaw 54 = .ok (.isub, 1) := by decide +kernel
theorem dX7_isLaw_55 : decode cX7_isLaw 55 = .ok (.iaload, 1) := by decide +kernel
theorem dX7_isLaw_56 : decode cX7_isLaw 56 = .ok (.goto 4, 3) := by decide +kernel
theorem dX7_isLaw_59 : decode cX7_isLaw 59 = .ok (.iconst 0, 1) := by decide +kernel
theorem dX7_isLaw_60 : decode cX7_isLaw 60 = .ok (.iastore, 1) := by decide +kernel
theorem dX7_isLaw_61 : decode cX7_isLaw 61 = .ok (.iinc 4 1, 3) := by decide +kernel
theorem dX7_isLaw_64 : decode cX7_isLaw 64 = .ok (.goto (-47), 3) := by decide +kernel
theorem dX7_isLaw_67 : decode cX7_isLaw 67 = .ok (.aload_n 0, 1) := by decide +kernel
theorem dX7_isLaw_68 : decode cX7_isLaw 68 = .ok (.getfield 13, 3) := by decide +kernel
theorem dX7_isLaw_71 : decode cX7_isLaw 71 = .ok (.bipush 13, 2) := by decide +kernel
theorem dX7_isLaw_73 : decode cX7_isLaw 73 = .ok (.iload_n 3, 1) := by decide +kernel
theorem dX7_isLaw_74 : decode cX7_isLaw 74 = .ok (.imul, 1) := by decide +kernel
theorem dX7_isLaw_75 : decode cX7_isLaw 75 = .ok (.iload_n 1, 1) := by decide +kernel
theorem dX7_isLaw_76 : decode cX7_isLaw 76 = .ok (.iadd, 1) := by decide +kernel
theorem dX7_isLaw_77 : decode cX7_isLaw 77 = .ok (.aload_n 0, 1) := by decide +kernel
theorem dX7_isLaw_78 : decode cX7_isLaw 78 = .ok (.getfield 7, 3) := by decide +kernel
theorem dX7_isLaw_81 : decode cX7_isLaw 81 = .ok (.iconst 4, 1) := by decide +kernel
theorem dX7_isLaw_82 : decode cX7_isLaw 82 = .ok (.iload_n 1, 1) := by decide +kernel
theorem dX7_isLaw_83 : decode cX7_isLaw 83 = .ok (.iadd, 1) := by decide +kernel
theorem dX7_isLaw_84 : decode cX7_isLaw 84 = .ok (.iload_n 3, 1) := by decide +kernel
theorem dX7_isLaw_85 : decode cX7_isLaw 85 = .ok (.iadd, 1) := by decide +kernel
theorem dX7_isLaw_86 : decode cX7_isLaw 86 = .ok (.iaload, 1) := by decide +kernel
theorem dX7_isLaw_87 : decode cX7_isLaw 87 = .ok (.iastore, 1) := by decide +kernel
theorem dX7_isLaw_88 : decode cX7_isLaw 88 = .ok (.iinc 3 1, 3) := by decide +kernel
theorem dX7_isLaw_91 : decode cX7_isLaw 91 = .ok (.goto (-84), 3) := by decide +kernel
theorem dX7_isLaw_94 : decode cX7_isLaw 94 = .ok (.aload_n 0, 1) := by decide +kernel
theorem dX7_isLaw_95 : decode cX7_isLaw 95 = .ok (.iload_n 2, 1) := by decide +kernel
theorem dX7_isLaw_96 : decode cX7_isLaw 96 = .ok (.iload_n 1, 1) := by decide +kernel
theorem dX7_isLaw_97 : decode cX7_isLaw 97 = .ok (.isub, 1) := by decide +kernel
theorem dX7_isLaw_98 : decode cX7_isLaw 98 = .ok (.iload_n 1, 1) := by decide +kernel
theorem dX7_isLaw_99 : decode cX7_isLaw 99 = .ok (.invokevirtual 93, 3) := by decide +kernel
theorem dX7_isLaw_102 : decode cX7_isLaw 102 = .ok (.istore_n 3, 1) := by decide +kernel
theorem dX7_isLaw_103 : decode cX7_isLaw 103 = .ok (.iconst 0, 1) := by decide +kernel
theorem dX7_isLaw_104 : decode cX7_isLaw 104 = .ok (.istore 4, 2) := by decide +kernel
theorem dX7_isLaw_106 : decode cX7_isLaw 106 = .ok (.iload 4, 2) := by decide +kernel
theorem dX7_isLaw_108 : decode cX7_isLaw 108 = .ok (.iload_n 1, 1) := by decide +kernel
theorem dX7_isLaw_109 : decode cX7_isLaw 109 = .ok (.if_icmp .ge 29, 3) := by decide +kernel
theorem dX7_isLaw_112 : decode cX7_isLaw 112 = .ok (.iload_n 3, 1) := by decide +kernel
theorem dX7_isLaw_113 : decode cX7_isLaw 113 = .ok (.ifCond .eq 25, 3) := by decide +kernel
theorem dX7_isLaw_116 : decode cX7_isLaw 116 = .ok (.aload_n 0, 1) := by decide +kernel
theorem dX7_isLaw_117 : decode cX7_isLaw 117 = .ok (.getfield 28, 3) := by decide +kernel
theorem dX7_isLaw_120 : decode cX7_isLaw 120 = .ok (.iload 4, 2) := by decide +kernel
theorem dX7_isLaw_122 : decode cX7_isLaw 122 = .ok (.iconst 1, 1) := by decide +kernel
theorem dX7_isLaw_123 : decode cX7_isLaw 123 = .ok (.iadd, 1) := by decide +kernel
theorem dX7_isLaw_124 : decode cX7_isLaw 124 = .ok (.aload_n 0, 1) := by decide +kernel
theorem dX7_isLaw_125 : decode cX7_isLaw 125 = .ok (.iload 4, 2) := by decide +kernel
theorem dX7_isLaw_127 : decode cX7_isLaw 127 = .ok (.iload_n 1, 1) := by decide +kernel
theorem dX7_isLaw_128 : decode cX7_isLaw 128 = .ok (.invokevirtual 188, 3) := by decide +kernel
theorem dX7_isLaw_131 : decode cX7_isLaw 131 = .ok (.iastore, 1) := by decide +kernel
theorem dX7_isLaw_132 : decode cX7_isLaw 132 = .ok (.iinc 4 1, 3) := by decide +kernel
theorem dX7_isLaw_135 : decode cX7_isLaw 135 = .ok (.goto (-29), 3) := by decide +kernel
theorem dX7_isLaw_138 : decode cX7_isLaw 138 = .ok (.iload_n 3, 1) := by decide +kernel
theorem dX7_isLaw_139 : decode cX7_isLaw 139 = .ok (.ireturn, 1) := by decide +kernel
theorem dX7_law_0 : decode cX7_law 0 = .ok (.iconst 0, 1) := by decide +kernel
theorem dX7_law_1 : decode cX7_law 1 = .ok (.istore_n 1, 1) := by decide +kernel
theorem dX7_law_2 : decode cX7_law 2 = .ok (.aload_n 0, 1) := by decide +kernel
theorem dX7_law_3 : decode cX7_law 3 = .ok (.iload_n 1, 1) := by decide +kernel
theorem dX7_law_4 : decode cX7_law 4 = .ok (.invokevirtual 194, 3) := by decide +kernel
theorem dX7_law_7 : decode cX7_law 7 = .ok (.ifCond .ne 9, 3) := by decide +kernel
theorem dX7_law_10 : decode cX7_law 10 = .ok (.iinc 1 1, 3) := by decide +kernel
theorem dX7_law_13 : decode cX7_law 13 = .ok (.goto (-11), 3) := by decide +kernel
theorem dX7_law_16 : decode cX7_law 16 = .ok (.iload_n 1, 1) := by decide +kernel
theorem dX7_law_17 : decode cX7_law 17 = .ok (.ireturn, 1) := by decide +kernel
theorem dX7_term_0 : decode cX7_term 0 = .ok (.iload_n 1, 1) := by decide +kernel
theorem dX7_term_1 : decode cX7_term 1 = .ok (.ifCond .le 20, 3) := by decide +kernel
theorem dX7_term_4 : decode cX7_term 4 = .ok (.iload_n 1, 1) := by decide +kernel
theorem dX7_term_5 : decode cX7_term 5 = .ok (.aload_n 0, 1) := by decide +kernel
theorem dX7_term_6 : decode cX7_term 6 = .ok (.invokevirtual 126, 3) := by decide +kernel
theorem dX7_term_9 : decode cX7_term 9 = .ok (.if_icmp .gt 12, 3) := by decide +kernel
theorem dX7_term_12 : decode cX7_term 12 = .ok (.aload_n 0, 1) := by decide +kernel
theorem dX7_term_13 : decode cX7_term 13 = .ok (.getfield 28, 3) := by decide +kernel
theorem dX7_term_16 : decode cX7_term 16 = .ok (.iload_n 1, 1) := by decide +kernel
theorem dX7_term_17 : decode cX7_term 17 = .ok (.iaload, 1) := by decide +kernel
theorem dX7_term_18 : decode cX7_term 18 = .ok (.goto 4, 3) := by decide +kernel
theorem dX7_term_21 : decode cX7_term 21 = .ok (.iconst (-1), 1) := by decide +kernel
theorem dX7_term_22 : decode cX7_term 22 = .ok (.ireturn, 1) := by decide +kernel
theorem dX7_next_0 : decode cX7_next 0 = .ok (.iload_n 1, 1) := by decide +kernel
theorem dX7_next_1 : decode cX7_next 1 = .ok (.i2l, 1) := by decide +kernel
theorem dX7_next_2 : decode cX7_next 2 = .ok (.lconst 0, 1) := by decide +kernel
theorem dX7_next_3 : decode cX7_next 3 = .ok (.ldc2_w 197, 3) := by decide +kernel
theorem dX7_next_6 : decode cX7_next 6 = .ok (.invokestatic 57, 3) := by decide +kernel
theorem dX7_next_9 : decode cX7_next 9 = .ok (.ifCond .ne 5, 3) := by decide +kernel
theorem dX7_next_12 : decode cX7_next 12 = .ok (.iconst (-1), 1) := by decide +kernel
theorem dX7_next_13 : decode cX7_next 13 = .ok (.ireturn, 1) := by decide +kernel
theorem dX7_next_14 : decode cX7_next 14 = .ok (.aload_n 0, 1) := by decide +kernel
theorem dX7_next_15 : decode cX7_next 15 = .ok (.invokevirtual 126, 3) := by decide +kernel
theorem dX7_next_18 : decode cX7_next 18 = .ok (.istore_n 2, 1) := by decide +kernel
theorem dX7_next_19 : decode cX7_next 19 = .ok (.aload_n 0, 1) := by decide +kernel
theorem dX7_next_20 : decode cX7_next 20 = .ok (.invokevirtual 61, 3) := by decide +kernel
theorem dX7_next_23 : decode cX7_next 23 = .ok (.istore_n 3, 1) := by decide +kernel
theorem dX7_next_24 : decode cX7_next 24 = .ok (.iconst 0, 1) := by decide +kernel
theorem dX7_next_25 : decode cX7_next 25 = .ok (.istore 4, 2) := by decide +kernel
theorem dX7_next_27 : decode cX7_next 27 = .ok (.iload 4, 2) := by decide +kernel
theorem dX7_next_29 : decode cX7_next 29 = .ok (.iload_n 3, 1) := by decide +kernel
theorem dX7_next_30 : decode cX7_next 30 = .ok (.iload_n 1, 1) := by decide +kernel
theorem dX7_next_31 : decode cX7_next 31 = .ok (.iadd, 1) := by decide +kernel
theorem dX7_next_32 : decode cX7_next 32 = .ok (.if_icmp .gt 90, 3) := by decide +kernel
theorem dX7_next_35 : decode cX7_next 35 = .ok (.iconst 0, 1) := by decide +kernel
theorem dX7_next_36 : decode cX7_next 36 = .ok (.istore 5, 2) := by decide +kernel
theorem dX7_next_38 : decode cX7_next 38 = .ok (.iconst 1, 1) := by decide +kernel
theorem dX7_next_39 : decode cX7_next 39 = .ok (.istore 6, 2) := by decide +kernel
theorem dX7_next_41 : decode cX7_next 41 = .ok (.iload 6, 2) := by decide +kernel
theorem dX7_next_43 : decode cX7_next 43 = .ok (.iload_n 2, 1) := by decide +kernel
theorem dX7_next_44 : decode cX7_next 44 = .ok (.if_icmp .gt 38, 3) := by decide +kernel
theorem dX7_next_47 : decode cX7_next 47 = .ok (.iload 4, 2) := by decide +kernel
theorem dX7_next_49 : decode cX7_next 49 = .ok (.iload_n 3, 1) := by decide +kernel
theorem dX7_next_50 : decode cX7_next 50 = .ok (.if_icmp .lt 32, 3) := by decide +kernel
theorem dX7_next_53 : decode cX7_next 53 = .ok (.iload 5, 2) := by decide +kernel
theorem dX7_next_55 : decode cX7_next 55 = .ok (.aload_n 0, 1) := by decide +kernel
theorem dX7_next_56 : decode cX7_next 56 = .ok (.getfield 28, 3) := by decide +kernel
theorem dX7_next_59 : decode cX7_next 59 = .ok (.iload 6, 2) := by decide +kernel
theorem dX7_next_61 : decode cX7_next 61 = .ok (.iaload, 1) := by decide +kernel
theorem dX7_next_62 : decode cX7_next 62 = .ok (.aload_n 0, 1) := by decide +kernel
theorem dX7_next_63 : decode cX7_next 63 = .ok (.getfield 31, 3) := by decide +kernel
theorem dX7_next_66 : decode cX7_next 66 = .ok (.iload 4, 2) := by decide +kernel
theorem dX7_next_68 : decode cX7_next 68 = .ok (.iload 6, 2) := by decide +kernel
theorem dX7_next_70 : decode cX7_next 70 = .ok (.isub, 1) := by decide +kernel
theorem dX7_next_71 : decode cX7_next 71 = .ok (.iaload, 1) := by decide +kernel
theorem dX7_next_72 : decode cX7_next 72 = .ok (.imul, 1) := by decide +kernel
theorem dX7_next_73 : decode cX7_next 73 = .ok (.iadd, 1) := by decide +kernel
theorem dX7_next_74 : decode cX7_next 74 = .ok (.istore 5, 2) := by decide +kernel
theorem dX7_next_76 : decode cX7_next 76 = .ok (.iinc 6 1, 3) := by decide +kernel
theorem dX7_next_79 : decode cX7_next 79 = .ok (.goto (-38), 3) := by decide +kernel
theorem dX7_next_82 : decode cX7_next 82 = .ok (.aload_n 0, 1) := by decide +kernel
theorem dX7_next_83 : decode cX7_next 83 = .ok (.getfield 31, 3) := by decide +kernel
theorem dX7_next_86 : decode cX7_next 86 = .ok (.iload 4, 2) := by decide +kernel
theorem dX7_next_88 : decode cX7_next 88 = .ok (.iload 4, 2) := by decide +kernel
theorem dX7_next_90 : decode cX7_next 90 = .ok (.iload_n 3, 1) := by decide +kernel
theorem dX7_next_91 : decode cX7_next 91 = .ok (.if_icmp .ge 15, 3) := by decide +kernel
theorem dX7_next_94 : decode cX7_next 94 = .ok (.aload_n 0, 1) := by decide +kernel
theorem dX7_next_95 : decode cX7_next 95 = .ok (.getfield 7, 3) := by decide +kernel
theorem dX7_next_98 : decode cX7_next 98 = .ok (.iconst 4, 1) := by decide +kernel
theorem dX7_next_99 : decode cX7_next 99 = .ok (.iload 4, 2) := by decide +kernel
theorem dX7_next_101 : decode cX7_next 101 = .ok (.iadd, 1) := by decide +kernel
theorem dX7_next_102 : decode cX7_next 102 = .ok (.iaload, 1) := by decide +kernel
theorem dX7_next_103 : decode cX7_next 103 = .ok (.goto 12, 3) := by decide +kernel
theorem dX7_next_106 : decode cX7_next 106 = .ok (.iload 5, 2) := by decide +kernel
theorem dX7_next_108 : decode cX7_next 108 = .ok (.aload_n 0, 1) := by decide +kernel
theorem dX7_next_109 : decode cX7_next 109 = .ok (.getfield 7, 3) := by decide +kernel
theorem dX7_next_112 : decode cX7_next 112 = .ok (.iconst 2, 1) := by decide +kernel
theorem dX7_next_113 : decode cX7_next 113 = .ok (.iaload, 1) := by decide +kernel
theorem dX7_next_114 : decode cX7_next 114 = .ok (.irem, 1) := by decide +kernel
theorem dX7_next_115 : decode cX7_next 115 = .ok (.iastore, 1) := by decide +kernel
theorem dX7_next_116 : decode cX7_next 116 = .ok (.iinc 4 1, 3) := by decide +kernel
theorem dX7_next_119 : decode cX7_next 119 = .ok (.goto (-92), 3) := by decide +kernel
theorem dX7_next_122 : decode cX7_next 122 = .ok (.aload_n 0, 1) := by decide +kernel
theorem dX7_next_123 : decode cX7_next 123 = .ok (.getfield 31, 3) := by decide +kernel
theorem dX7_next_126 : decode cX7_next 126 = .ok (.iload_n 3, 1) := by decide +kernel
theorem dX7_next_127 : decode cX7_next 127 = .ok (.iload_n 1, 1) := by decide +kernel
theorem dX7_next_128 : decode cX7_next 128 = .ok (.iadd, 1) := by decide +kernel
theorem dX7_next_129 : decode cX7_next 129 = .ok (.iaload, 1) := by decide +kernel
theorem dX7_next_130 : decode cX7_next 130 = .ok (.ireturn, 1) := by decide +kernel
theorem dX7_wiped_0 : decode cX7_wiped 0 = .ok (.iload_n 1, 1) := by decide +kernel
theorem dX7_wiped_1 : decode cX7_wiped 1 = .ok (.i2l, 1) := by decide +kernel
theorem dX7_wiped_2 : decode cX7_wiped 2 = .ok (.lconst 0, 1) := by decide +kernel
theorem dX7_wiped_3 : decode cX7_wiped 3 = .ok (.ldc2_w 199, 3) := by decide +kernel
theorem dX7_wiped_6 : decode cX7_wiped 6 = .ok (.invokestatic 57, 3) := by decide +kernel
theorem dX7_wiped_9 : decode cX7_wiped 9 = .ok (.ifCond .eq 13, 3) := by decide +kernel
theorem dX7_wiped_12 : decode cX7_wiped 12 = .ok (.iload_n 2, 1) := by decide +kernel
theorem dX7_wiped_13 : decode cX7_wiped 13 = .ok (.i2l, 1) := by decide +kernel
theorem dX7_wiped_14 : decode cX7_wiped 14 = .ok (.lconst 0, 1) := by decide +kernel
theorem dX7_wiped_15 : decode cX7_wiped 15 = .ok (.lconst 1, 1) := by decide +kernel
theorem dX7_wiped_16 : decode cX7_wiped 16 = .ok (.invokestatic 57, 3) := by decide +kernel
theorem dX7_wiped_19 : decode cX7_wiped 19 = .ok (.ifCond .ne 7, 3) := by decide +kernel
theorem dX7_wiped_22 : decode cX7_wiped 22 = .ok (.ldc2_w 180, 3) := by decide +kernel
theorem dX7_wiped_25 : decode cX7_wiped 25 = .ok (.lreturn, 1) := by decide +kernel
theorem dX7_wiped_26 : decode cX7_wiped 26 = .ok (.aload_n 0, 1) := by decide +kernel
theorem dX7_wiped_27 : decode cX7_wiped 27 = .ok (.invokevirtual 61, 3) := by decide +kernel
theorem dX7_wiped_30 : decode cX7_wiped 30 = .ok (.istore_n 3, 1) := by decide +kernel
theorem dX7_wiped_31 : decode cX7_wiped 31 = .ok (.iconst 0, 1) := by decide +kernel
theorem dX7_wiped_32 : decode cX7_wiped 32 = .ok (.istore 4, 2) := by decide +kernel
theorem dX7_wiped_34 : decode cX7_wiped 34 = .ok (.iload 4, 2) := by decide +kernel
theorem dX7_wiped_36 : decode cX7_wiped 36 = .ok (.iload_n 3, 1) := by decide +kernel
theorem dX7_wiped_37 : decode cX7_wiped 37 = .ok (.if_icmp .ge 25, 3) := by decide +kernel
theorem dX7_wiped_40 : decode cX7_wiped 40 = .ok (.aload_n 0, 1) := by decide +kernel
theorem dX7_wiped_41 : decode cX7_wiped 41 = .ok (.getfield 22, 3) := by decide +kernel
theorem dX7_wiped_44 : decode cX7_wiped 44 = .ok (.iload 4, 2) := by decide +kernel
theorem dX7_wiped_46 : decode cX7_wiped 46 = .ok (.aload_n 0, 1) := by decide +kernel
theorem dX7_wiped_47 : decode cX7_wiped 47 = .ok (.getfield 7, 3) := by decide +kernel
theorem dX7_wiped_50 : decode cX7_wiped 50 = .ok (.iconst 4, 1) := by decide +kernel
theorem dX7_wiped_51 : decode cX7_wiped 51 = .ok (.iload 4, 2) := by decide +kernel
theorem dX7_wiped_53 : decode cX7_wiped 53 = .ok (.iadd, 1) := by decide +kernel
theorem dX7_wiped_54 : decode cX7_wiped 54 = .ok (.iaload, 1) := by decide +kernel
theorem dX7_wiped_55 : decode cX7_wiped 55 = .ok (.iastore, 1) := by decide +kernel
theorem dX7_wiped_56 : decode cX7_wiped 56 = .ok (.iinc 4 1, 3) := by decide +kernel
theorem dX7_wiped_59 : decode cX7_wiped 59 = .ok (.goto (-25), 3) := by decide +kernel
theorem dX7_wiped_62 : decode cX7_wiped 62 = .ok (.lconst 0, 1) := by decide +kernel
theorem dX7_wiped_63 : decode cX7_wiped 63 = .ok (.lstore 4, 2) := by decide +kernel
theorem dX7_wiped_65 : decode cX7_wiped 65 = .ok (.lconst 0, 1) := by decide +kernel
theorem dX7_wiped_66 : decode cX7_wiped 66 = .ok (.lstore 6, 2) := by decide +kernel
theorem dX7_wiped_68 : decode cX7_wiped 68 = .ok (.iconst 0, 1) := by decide +kernel
theorem dX7_wiped_69 : decode cX7_wiped 69 = .ok (.istore 8, 2) := by decide +kernel
theorem dX7_wiped_71 : decode cX7_wiped 71 = .ok (.iload 8, 2) := by decide +kernel
theorem dX7_wiped_73 : decode cX7_wiped 73 = .ok (.iconst 1, 1) := by decide +kernel
theorem dX7_wiped_74 : decode cX7_wiped 74 = .ok (.iload_n 3, 1) := by decide +kernel
theorem dX7_wiped_75 : decode cX7_wiped 75 = .ok (.ishl, 1) := by decide +kernel
theorem dX7_wiped_76 : decode cX7_wiped 76 = .ok (.if_icmp .ge 128, 3) := by decide +kernel
theorem dX7_wiped_79 : decode cX7_wiped 79 = .ok (.lconst 1, 1) := by decide +kernel
theorem dX7_wiped_80 : decode cX7_wiped 80 = .ok (.lstore 9, 2) := by decide +kernel
theorem dX7_wiped_82 : decode cX7_wiped 82 = .ok (.iconst 0, 1) := by decide +kernel
theorem dX7_wiped_83 : decode cX7_wiped 83 = .ok (.istore 11, 2) := by decide +kernel
theorem dX7_wiped_85 : decode cX7_wiped 85 = .ok (.iload 11, 2) := by decide +kernel
theorem dX7_wiped_87 : decode cX7_wiped 87 = .ok (.iload_n 3, 1) := by decide +kernel
theorem dX7_wiped_88 : decode cX7_wiped 88 = .ok (.if_icmp .ge 72, 3) := by decide +kernel
theorem dX7_wiped_91 : decode cX7_wiped 91 = .ok (.iload 8, 2) := by decide +kernel
theorem dX7_wiped_93 : decode cX7_wiped 93 = .ok (.iload 11, 2) := by decide +kernel
theorem dX7_wiped_95 : decode cX7_wiped 95 = .ok (.ishr, 1) := by decide +kernel
theorem dX7_wiped_96 : decode cX7_wiped 96 = .ok (.iconst 1, 1) := by decide +kernel
theorem dX7_wiped_97 : decode cX7_wiped 97 = .ok (.iand, 1) := by decide +kernel
theorem dX7_wiped_98 : decode cX7_wiped 98 = .ok (.iconst 1, 1) := by decide +kernel
theorem dX7_wiped_99 : decode cX7_wiped 99 = .ok (.if_icmp .ne 7, 3) := by decide +kernel
theorem dX7_wiped_102 : decode cX7_wiped 102 = .ok (.iconst 1, 1) := by decide +kernel
theorem dX7_wiped_103 : decode cX7_wiped 103 = .ok (.goto 4, 3) := by decide +kernel
theorem dX7_wiped_106 : decode cX7_wiped 106 = .ok (.iconst 0, 1) := by decide +kernel
theorem dX7_wiped_107 : decode cX7_wiped 107 = .ok (.istore 12, 2) := by decide +kernel
theorem dX7_wiped_109 : decode cX7_wiped 109 = .ok (.lload 9, 2) := by decide +kernel
theorem dX7_wiped_111 : decode cX7_wiped 111 = .ok (.iload 12, 2) := by decide +kernel
theorem dX7_wiped_113 : decode cX7_wiped 113 = .ok (.ifCond .eq 8, 3) := by decide +kernel
theorem dX7_wiped_116 : decode cX7_wiped 116 = .ok (.iload_n 1, 1) := by decide +kernel
theorem dX7_wiped_117 : decode cX7_wiped 117 = .ok (.i2l, 1) := by decide +kernel
theorem dX7_wiped_118 : decode cX7_wiped 118 = .ok (.goto 8, 3) := by decide +kernel
theorem dX7_wiped_121 : decode cX7_wiped 121 = .ok (.bipush 10, 2) := by decide +kernel
theorem dX7_wiped_123 : decode cX7_wiped 123 = .ok (.iload_n 1, 1) := by decide +kernel
theorem dX7_wiped_124 : decode cX7_wiped 124 = .ok (.isub, 1) := by decide +kernel
theorem dX7_wiped_125 : decode cX7_wiped 125 = .ok (.i2l, 1) := by decide +kernel
theorem dX7_wiped_126 : decode cX7_wiped 126 = .ok (.lmul, 1) := by decide +kernel
theorem dX7_wiped_127 : decode cX7_wiped 127 = .ok (.lstore 9, 2) := by decide +kernel
theorem dX7_wiped_129 : decode cX7_wiped 129 = .ok (.aload_n 0, 1) := by decide +kernel
theorem dX7_wiped_130 : decode cX7_wiped 130 = .ok (.getfield 7, 3) := by decide +kernel
theorem dX7_wiped_133 : decode cX7_wiped 133 = .ok (.iconst 4, 1) := by decide +kernel
theorem dX7_wiped_134 : decode cX7_wiped 134 = .ok (.iload 11, 2) := by decide +kernel
theorem dX7_wiped_136 : decode cX7_wiped 136 = .ok (.iadd, 1) := by decide +kernel
theorem dX7_wiped_137 : decode cX7_wiped 137 = .ok (.iload 12, 2) := by decide +kernel
theorem dX7_wiped_139 : decode cX7_wiped 139 = .ok (.ifCond .eq 7, 3) := by decide +kernel
theorem dX7_wiped_142 : decode cX7_wiped 142 = .ok (.iconst 0, 1) := by decide +kernel
theorem dX7_wiped_143 : decode cX7_wiped 143 = .ok (.goto 10, 3) := by decide +kernel
theorem dX7_wiped_146 : decode cX7_wiped 146 = .ok (.aload_n 0, 1) := by decide +kernel
theorem dX7_wiped_147 : decode cX7_wiped 147 = .ok (.getfield 22, 3) := by decide +kernel
theorem dX7_wiped_150 : decode cX7_wiped 150 = .ok (.iload 11, 2) := by decide +kernel
theorem dX7_wiped_152 : decode cX7_wiped 152 = .ok (.iaload, 1) := by decide +kernel
theorem dX7_wiped_153 : decode cX7_wiped 153 = .ok (.iastore, 1) := by decide +kernel
theorem dX7_wiped_154 : decode cX7_wiped 154 = .ok (.iinc 11 1, 3) := by decide +kernel
theorem dX7_wiped_157 : decode cX7_wiped 157 = .ok (.goto (-72), 3) := by decide +kernel
theorem dX7_wiped_160 : decode cX7_wiped 160 = .ok (.lload 6, 2) := by decide +kernel
theorem dX7_wiped_162 : decode cX7_wiped 162 = .ok (.lload 9, 2) := by decide +kernel
theorem dX7_wiped_164 : decode cX7_wiped 164 = .ok (.ladd, 1) := by decide +kernel
theorem dX7_wiped_165 : decode cX7_wiped 165 = .ok (.lstore 6, 2) := by decide +kernel
theorem dX7_wiped_167 : decode cX7_wiped 167 = .ok (.lload 4, 2) := by decide +kernel
theorem dX7_wiped_169 : decode cX7_wiped 169 = .ok (.lload 9, 2) := by decide +kernel
theorem dX7_wiped_171 : decode cX7_wiped 171 = .ok (.lconst 0, 1) := by decide +kernel
theorem dX7_wiped_172 : decode cX7_wiped 172 = .ok (.lcmp, 1) := by decide +kernel
theorem dX7_wiped_173 : decode cX7_wiped 173 = .ok (.ifCond .le 21, 3) := by decide +kernel
theorem dX7_wiped_176 : decode cX7_wiped 176 = .ok (.aload_n 0, 1) := by decide +kernel
theorem dX7_wiped_177 : decode cX7_wiped 177 = .ok (.aload_n 0, 1) := by decide +kernel
theorem dX7_wiped_178 : decode cX7_wiped 178 = .ok (.getfield 7, 3) := by decide +kernel
theorem dX7_wiped_181 : decode cX7_wiped 181 = .ok (.iconst 0, 1) := by decide +kernel
theorem dX7_wiped_182 : decode cX7_wiped 182 = .ok (.iaload, 1) := by decide +kernel
theorem dX7_wiped_183 : decode cX7_wiped 183 = .ok (.invokevirtual 117, 3) := by decide +kernel
theorem dX7_wiped_186 : decode cX7_wiped 186 = .ok (.ifCond .ne 8, 3) := by decide +kernel
theorem dX7_wiped_189 : decode cX7_wiped 189 = .ok (.lload 9, 2) := by decide +kernel
theorem dX7_wiped_191 : decode cX7_wiped 191 = .ok (.goto 4, 3) := by decide +kernel
theorem dX7_wiped_194 : decode cX7_wiped 194 = .ok (.lconst 0, 1) := by decide +kernel
theorem dX7_wiped_195 : decode cX7_wiped 195 = .ok (.ladd, 1) := by decide +kernel
theorem dX7_wiped_196 : decode cX7_wiped 196 = .ok (.lstore 4, 2) := by decide +kernel
theorem dX7_wiped_198 : decode cX7_wiped 198 = .ok (.iinc 8 1, 3) := by decide +kernel
theorem dX7_wiped_201 : decode cX7_wiped 201 = .ok (.goto (-130), 3) := by decide +kernel
theorem dX7_wiped_204 : decode cX7_wiped 204 = .ok (.iconst 0, 1) := by decide +kernel
theorem dX7_wiped_205 : decode cX7_wiped 205 = .ok (.istore 8, 2) := by decide +kernel
theorem dX7_wiped_207 : decode cX7_wiped 207 = .ok (.iload 8, 2) := by decide +kernel
theorem dX7_wiped_209 : decode cX7_wiped 209 = .ok (.iload_n 3, 1) := by decide +kernel
theorem dX7_wiped_210 : decode cX7_wiped 210 = .ok (.if_icmp .ge 25, 3) := by decide +kernel
theorem dX7_wiped_213 : decode cX7_wiped 213 = .ok (.aload_n 0, 1) := by decide +kernel
theorem dX7_wiped_214 : decode cX7_wiped 214 = .ok (.getfield 7, 3) := by decide +kernel
theorem dX7_wiped_217 : decode cX7_wiped 217 = .ok (.iconst 4, 1) := by decide +kernel
theorem dX7_wiped_218 : decode cX7_wiped 218 = .ok (.iload 8, 2) := by decide +kernel
theorem dX7_wiped_220 : decode cX7_wiped 220 = .ok (.iadd, 1) := by decide +kernel
theorem dX7_wiped_221 : decode cX7_wiped 221 = .ok (.aload_n 0, 1) := by decide +kernel
theorem dX7_wiped_222 : decode cX7_wiped 222 = .ok (.getfield 22, 3) := by decide +kernel
theorem dX7_wiped_225 : decode cX7_wiped 225 = .ok (.iload 8, 2) := by decide +kernel
theorem dX7_wiped_227 : decode cX7_wiped 227 = .ok (.iaload, 1) := by decide +kernel
theorem dX7_wiped_228 : decode cX7_wiped 228 = .ok (.iastore, 1) := by decide +kernel
theorem dX7_wiped_229 : decode cX7_wiped 229 = .ok (.iinc 8 1, 3) := by decide +kernel
theorem dX7_wiped_232 : decode cX7_wiped 232 = .ok (.goto (-25), 3) := by decide +kernel
theorem dX7_wiped_235 : decode cX7_wiped 235 = .ok (.lload 4, 2) := by decide +kernel
theorem dX7_wiped_237 : decode cX7_wiped 237 = .ok (.lstore 8, 2) := by decide +kernel
theorem dX7_wiped_239 : decode cX7_wiped 239 = .ok (.lload 6, 2) := by decide +kernel
theorem dX7_wiped_241 : decode cX7_wiped 241 = .ok (.lstore 10, 2) := by decide +kernel
theorem dX7_wiped_243 : decode cX7_wiped 243 = .ok (.lload 10, 2) := by decide +kernel
theorem dX7_wiped_245 : decode cX7_wiped 245 = .ok (.lconst 0, 1) := by decide +kernel
theorem dX7_wiped_246 : decode cX7_wiped 246 = .ok (.lcmp, 1) := by decide +kernel
theorem dX7_wiped_247 : decode cX7_wiped 247 = .ok (.ifCond .eq 21, 3) := by decide +kernel
theorem dX7_wiped_250 : decode cX7_wiped 250 = .ok (.lload 8, 2) := by decide +kernel
theorem dX7_wiped_252 : decode cX7_wiped 252 = .ok (.lload 10, 2) := by decide +kernel
theorem dX7_wiped_254 : decode cX7_wiped 254 = .ok (.lrem, 1) := by decide +kernel
theorem dX7_wiped_255 : decode cX7_wiped 255 = .ok (.lstore 12, 2) := by decide +kernel
theorem dX7_wiped_257 : decode cX7_wiped 257 = .ok (.lload 10, 2) := by decide +kernel
theorem dX7_wiped_259 : decode cX7_wiped 259 = .ok (.lstore 8, 2) := by decide +kernel
theorem dX7_wiped_261 : decode cX7_wiped 261 = .ok (.lload 12, 2) := by decide +kernel
theorem dX7_wiped_263 : decode cX7_wiped 263 = .ok (.lstore 10, 2) := by decide +kernel
theorem dX7_wiped_265 : decode cX7_wiped 265 = .ok (.goto (-22), 3) := by decide +kernel
theorem dX7_wiped_268 : decode cX7_wiped 268 = .ok (.iload_n 2, 1) := by decide +kernel
theorem dX7_wiped_269 : decode cX7_wiped 269 = .ok (.ifCond .ne 8, 3) := by decide +kernel
theorem dX7_wiped_272 : decode cX7_wiped 272 = .ok (.lload 4, 2) := by decide +kernel
theorem dX7_wiped_274 : decode cX7_wiped 274 = .ok (.goto 5, 3) := by decide +kernel
theorem dX7_wiped_277 : decode cX7_wiped 277 = .ok (.lload 6, 2) := by decide +kernel
theorem dX7_wiped_279 : decode cX7_wiped 279 = .ok (.lload 8, 2) := by decide +kernel
theorem dX7_wiped_281 : decode cX7_wiped 281 = .ok (.ldiv, 1) := by decide +kernel
theorem dX7_wiped_282 : decode cX7_wiped 282 = .ok (.lreturn, 1) := by decide +kernel
theorem dX7_image_0 : decode cX7_image 0 = .ok (.iconst 0, 1) := by decide +kernel
theorem dX7_image_1 : decode cX7_image 1 = .ok (.istore_n 1, 1) := by decide +kernel
theorem dX7_image_2 : decode cX7_image 2 = .ok (.iload_n 1, 1) := by decide +kernel
theorem dX7_image_3 : decode cX7_image 3 = .ok (.bipush 21, 2) := by decide +kernel
theorem dX7_image_5 : decode cX7_image 5 = .ok (.if_icmp .ge 21, 3) := by decide +kernel
theorem dX7_image_8 : decode cX7_image 8 = .ok (.aload_n 0, 1) := by decide +kernel
theorem dX7_image_9 : decode cX7_image 9 = .ok (.getfield 34, 3) := by decide +kernel
theorem dX7_image_12 : decode cX7_image 12 = .ok (.iload_n 1, 1) := by decide +kernel
theorem dX7_image_13 : decode cX7_image 13 = .ok (.aload_n 0, 1) := by decide +kernel
theorem dX7_image_14 : decode cX7_image 14 = .ok (.getfield 7, 3) := by decide +kernel
theorem dX7_image_17 : decode cX7_image 17 = .ok (.iload_n 1, 1) := by decide +kernel
theorem dX7_image_18 : decode cX7_image 18 = .ok (.iaload, 1) := by decide +kernel
theorem dX7_image_19 : decode cX7_image 19 = .ok (.iastore, 1) := by decide +kernel
theorem dX7_image_20 : decode cX7_image 20 = .ok (.iinc 1 1, 3) := by decide +kernel
theorem dX7_image_23 : decode cX7_image 23 = .ok (.goto (-21), 3) := by decide +kernel
theorem dX7_image_26 : decode cX7_image 26 = .ok (.iconst 0, 1) := by decide +kernel
theorem dX7_image_27 : decode cX7_image 27 = .ok (.istore_n 1, 1) := by decide +kernel
theorem dX7_image_28 : decode cX7_image 28 = .ok (.iload_n 1, 1) := by decide +kernel
theorem dX7_image_29 : decode cX7_image 29 = .ok (.sipush 168, 3) := by decide +kernel
theorem dX7_image_32 : decode cX7_image 32 = .ok (.if_icmp .ge 21, 3) := by decide +kernel
theorem dX7_image_35 : decode cX7_image 35 = .ok (.aload_n 0, 1) := by decide +kernel
theorem dX7_image_36 : decode cX7_image 36 = .ok (.getfield 37, 3) := by decide +kernel
theorem dX7_image_39 : decode cX7_image 39 = .ok (.iload_n 1, 1) := by decide +kernel
theorem dX7_image_40 : decode cX7_image 40 = .ok (.aload_n 0, 1) := by decide +kernel
theorem dX7_image_41 : decode cX7_image 41 = .ok (.getfield 25, 3) := by decide +kernel
theorem dX7_image_44 : decode cX7_image 44 = .ok (.iload_n 1, 1) := by decide +kernel
theorem dX7_image_45 : decode cX7_image 45 = .ok (.iaload, 1) := by decide +kernel
theorem dX7_image_46 : decode cX7_image 46 = .ok (.iastore, 1) := by decide +kernel
theorem dX7_image_47 : decode cX7_image 47 = .ok (.iinc 1 1, 3) := by decide +kernel
theorem dX7_image_50 : decode cX7_image 50 = .ok (.goto (-22), 3) := by decide +kernel
theorem dX7_image_53 : decode cX7_image 53 = .ok (.aload_n 0, 1) := by decide +kernel
theorem dX7_image_54 : decode cX7_image 54 = .ok (.aload_n 0, 1) := by decide +kernel
theorem dX7_image_55 : decode cX7_image 55 = .ok (.getfield 108, 3) := by decide +kernel
theorem dX7_image_58 : decode cX7_image 58 = .ok (.putfield 40, 3) := by decide +kernel
theorem dX7_image_61 : decode cX7_image 61 = .ok (.iconst 1, 1) := by decide +kernel
theorem dX7_image_62 : decode cX7_image 62 = .ok (.ireturn, 1) := by decide +kernel
theorem dX7_restore_0 : decode cX7_restore 0 = .ok (.aload_n 0, 1) := by decide +kernel
theorem dX7_restore_1 : decode cX7_restore 1 = .ok (.getfield 40, 3) := by decide +kernel
theorem dX7_restore_4 : decode cX7_restore 4 = .ok (.ifCond .ge 6, 3) := by decide +kernel
theorem dX7_restore_7 : decode cX7_restore 7 = .ok (.bipush (-4), 2) := by decide +kernel
theorem dX7_restore_9 : decode cX7_restore 9 = .ok (.ireturn, 1) := by decide +kernel
theorem dX7_restore_10 : decode cX7_restore 10 = .ok (.iconst 0, 1) := by decide +kernel
theorem dX7_restore_11 : decode cX7_restore 11 = .ok (.istore_n 1, 1) := by decide +kernel
theorem dX7_restore_12 : decode cX7_restore 12 = .ok (.iload_n 1, 1) := by decide +kernel
theorem dX7_restore_13 : decode cX7_restore 13 = .ok (.bipush 21, 2) := by decide +kernel
theorem dX7_restore_15 : decode cX7_restore 15 = .ok (.if_icmp .ge 21, 3) := by decide +kernel
theorem dX7_restore_18 : decode cX7_restore 18 = .ok (.aload_n 0, 1) := by decide +kernel
theorem dX7_restore_19 : decode cX7_restore 19 = .ok (.getfield 7, 3) := by decide +kernel
theorem dX7_restore_22 : decode cX7_restore 22 = .ok (.iload_n 1, 1) := by decide +kernel
theorem dX7_restore_23 : decode cX7_restore 23 = .ok (.aload_n 0, 1) := by decide +kernel
theorem dX7_restore_24 : decode cX7_restore 24 = .ok (.getfield 34, 3) := by decide +kernel
theorem dX7_restore_27 : decode cX7_restore 27 = .ok (.iload_n 1, 1) := by decide +kernel
theorem dX7_restore_28 : decode cX7_restore 28 = .ok (.iaload, 1) := by decide +kernel
theorem dX7_restore_29 : decode cX7_restore 29 = .ok (.iastore, 1) := by decide +kernel
theorem dX7_restore_30 : decode cX7_restore 30 = .ok (.iinc 1 1, 3) := by decide +kernel
theorem dX7_restore_33 : decode cX7_restore 33 = .ok (.goto (-21), 3) := by decide +kernel
theorem dX7_restore_36 : decode cX7_restore 36 = .ok (.iconst 0, 1) := by decide +kernel
theorem dX7_restore_37 : decode cX7_restore 37 = .ok (.istore_n 1, 1) := by decide +kernel
theorem dX7_restore_38 : decode cX7_restore 38 = .ok (.iload_n 1, 1) := by decide +kernel
theorem dX7_restore_39 : decode cX7_restore 39 = .ok (.sipush 168, 3) := by decide +kernel
theorem dX7_restore_42 : decode cX7_restore 42 = .ok (.if_icmp .ge 21, 3) := by decide +kernel
theorem dX7_restore_45 : decode cX7_restore 45 = .ok (.aload_n 0, 1) := by decide +kernel
theorem dX7_restore_46 : decode cX7_restore 46 = .ok (.getfield 25, 3) := by decide +kernel
theorem dX7_restore_49 : decode cX7_restore 49 = .ok (.iload_n 1, 1) := by decide +kernel
theorem dX7_restore_50 : decode cX7_restore 50 = .ok (.aload_n 0, 1) := by decide +kernel
theorem dX7_restore_51 : decode cX7_restore 51 = .ok (.getfield 37, 3) := by decide +kernel
theorem dX7_restore_54 : decode cX7_restore 54 = .ok (.iload_n 1, 1) := by decide +kernel
theorem dX7_restore_55 : decode cX7_restore 55 = .ok (.iaload, 1) := by decide +kernel
theorem dX7_restore_56 : decode cX7_restore 56 = .ok (.iastore, 1) := by decide +kernel
theorem dX7_restore_57 : decode cX7_restore 57 = .ok (.iinc 1 1, 3) := by decide +kernel
theorem dX7_restore_60 : decode cX7_restore 60 = .ok (.goto (-22), 3) := by decide +kernel
theorem dX7_restore_63 : decode cX7_restore 63 = .ok (.aload_n 0, 1) := by decide +kernel
theorem dX7_restore_64 : decode cX7_restore 64 = .ok (.aload_n 0, 1) := by decide +kernel
theorem dX7_restore_65 : decode cX7_restore 65 = .ok (.getfield 40, 3) := by decide +kernel
theorem dX7_restore_68 : decode cX7_restore 68 = .ok (.putfield 108, 3) := by decide +kernel
theorem dX7_restore_71 : decode cX7_restore 71 = .ok (.iconst 1, 1) := by decide +kernel
theorem dX7_restore_72 : decode cX7_restore 72 = .ok (.ireturn, 1) := by decide +kernel
theorem dX7_isSheet_0 : decode cX7_isSheet 0 = .ok (.iload_n 0, 1) := by decide +kernel
theorem dX7_isSheet_1 : decode cX7_isSheet 1 = .ok (.i2l, 1) := by decide +kernel
theorem dX7_isSheet_2 : decode cX7_isSheet 2 = .ok (.lconst 0, 1) := by decide +kernel
theorem dX7_isSheet_3 : decode cX7_isSheet 3 = .ok (.ldc2_w 201, 3) := by decide +kernel
theorem dX7_isSheet_6 : decode cX7_isSheet 6 = .ok (.invokestatic 57, 3) := by decide +kernel
theorem dX7_isSheet_9 : decode cX7_isSheet 9 = .ok (.ireturn, 1) := by decide +kernel
theorem dX7_cutTo_0 : decode cX7_cutTo 0 = .ok (.iload_n 2, 1) := by decide +kernel
theorem dX7_cutTo_1 : decode cX7_cutTo 1 = .ok (.ifCond .ne 10, 3) := by decide +kernel
theorem dX7_cutTo_4 : decode cX7_cutTo 4 = .ok (.lload_n 0, 1) := by decide +kernel
theorem dX7_cutTo_5 : decode cX7_cutTo 5 = .ok (.l2i, 1) := by decide +kernel
theorem dX7_cutTo_6 : decode cX7_cutTo 6 = .ok (.i2b, 1) := by decide +kernel
theorem dX7_cutTo_7 : decode cX7_cutTo 7 = .ok (.i2l, 1) := by decide +kernel
theorem dX7_cutTo_8 : decode cX7_cutTo 8 = .ok (.goto 27, 3) := by decide +kernel
theorem dX7_cutTo_11 : decode cX7_cutTo 11 = .ok (.iload_n 2, 1) := by decide +kernel
theorem dX7_cutTo_12 : decode cX7_cutTo 12 = .ok (.iconst 1, 1) := by decide +kernel
theorem dX7_cutTo_13 : decode cX7_cutTo 13 = .ok (.if_icmp .ne 10, 3) := by decide +kernel
theorem dX7_cutTo_16 : decode cX7_cutTo 16 = .ok (.lload_n 0, 1) := by decide +kernel
theorem dX7_cutTo_17 : decode cX7_cutTo 17 = .ok (.l2i, 1) := by decide +kernel
theorem dX7_cutTo_18 : decode cX7_cutTo 18 = .ok (.i2s, 1) := by decide +kernel
theorem dX7_cutTo_19 : decode cX7_cutTo 19 = .ok (.i2l, 1) := by decide +kernel
theorem dX7_cutTo_20 : decode cX7_cutTo 20 = .ok (.goto 15, 3) := by decide +kernel
theorem dX7_cutTo_23 : decode cX7_cutTo 23 = .ok (.iload_n 2, 1) := by decide +kernel
theorem dX7_cutTo_24 : decode cX7_cutTo 24 = .ok (.iconst 2, 1) := by decide +kernel
theorem dX7_cutTo_25 : decode cX7_cutTo 25 = .ok (.if_icmp .ne 9, 3) := by decide +kernel
theorem dX7_cutTo_28 : decode cX7_cutTo 28 = .ok (.lload_n 0, 1) := by decide +kernel
theorem dX7_cutTo_29 : decode cX7_cutTo 29 = .ok (.l2i, 1) := by decide +kernel
theorem dX7_cutTo_30 : decode cX7_cutTo 30 = .ok (.i2l, 1) := by decide +kernel
theorem dX7_cutTo_31 : decode cX7_cutTo 31 = .ok (.goto 4, 3) := by decide +kernel
theorem dX7_cutTo_34 : decode cX7_cutTo 34 = .ok (.lload_n 0, 1) := by decide +kernel
theorem dX7_cutTo_35 : decode cX7_cutTo 35 = .ok (.lreturn, 1) := by decide +kernel
theorem dX7_sheet_0 : decode cX7_sheet 0 = .ok (.iload_n 1, 1) := by decide +kernel
theorem dX7_sheet_1 : decode cX7_sheet 1 = .ok (.invokestatic 203, 3) := by decide +kernel
theorem dX7_sheet_4 : decode cX7_sheet 4 = .ok (.ifCond .eq 21, 3) := by decide +kernel
theorem dX7_sheet_7 : decode cX7_sheet 7 = .ok (.iload_n 2, 1) := by decide +kernel
theorem dX7_sheet_8 : decode cX7_sheet 8 = .ok (.i2l, 1) := by decide +kernel
theorem dX7_sheet_9 : decode cX7_sheet 9 = .ok (.lconst 0, 1) := by decide +kernel
theorem dX7_sheet_10 : decode cX7_sheet 10 = .ok (.ldc2_w 201, 3) := by decide +kernel
theorem dX7_sheet_13 : decode cX7_sheet 13 = .ok (.invokestatic 57, 3) := by decide +kernel
theorem dX7_sheet_16 : decode cX7_sheet 16 = .ok (.ifCond .eq 9, 3) := by decide +kernel
theorem dX7_sheet_19 : decode cX7_sheet 19 = .ok (.iload_n 3, 1) := by decide +kernel
theorem dX7_sheet_20 : decode cX7_sheet 20 = .ok (.bipush 24, 2) := by decide +kernel
theorem dX7_sheet_22 : decode cX7_sheet 22 = .ok (.if_icmp .le 5, 3) := by decide +kernel
theorem dX7_sheet_25 : decode cX7_sheet 25 = .ok (.iconst (-1), 1) := by decide +kernel
theorem dX7_sheet_26 : decode cX7_sheet 26 = .ok (.ireturn, 1) := by decide +kernel
theorem dX7_sheet_27 : decode cX7_sheet 27 = .ok (.iload_n 3, 1) := by decide +kernel
theorem dX7_sheet_28 : decode cX7_sheet 28 = .ok (.ifCond .ge 6, 3) := by decide +kernel
theorem dX7_sheet_31 : decode cX7_sheet 31 = .ok (.bipush (-14), 2) := by decide +kernel
theorem dX7_sheet_33 : decode cX7_sheet 33 = .ok (.ireturn, 1) := by decide +kernel
theorem dX7_sheet_34 : decode cX7_sheet 34 = .ok (.aload_n 0, 1) := by decide +kernel
theorem dX7_sheet_35 : decode cX7_sheet 35 = .ok (.getfield 44, 3) := by decide +kernel
theorem dX7_sheet_38 : decode cX7_sheet 38 = .ok (.iload_n 1, 1) := by decide +kernel
theorem dX7_sheet_39 : decode cX7_sheet 39 = .ok (.iload_n 2, 1) := by decide +kernel
theorem dX7_sheet_40 : decode cX7_sheet 40 = .ok (.iastore, 1) := by decide +kernel
theorem dX7_sheet_41 : decode cX7_sheet 41 = .ok (.aload_n 0, 1) := by decide +kernel
theorem dX7_sheet_42 : decode cX7_sheet 42 = .ok (.getfield 47, 3) := by decide +kernel
theorem dX7_sheet_45 : decode cX7_sheet 45 = .ok (.iload_n 1, 1) := by decide +kernel
theorem dX7_sheet_46 : decode cX7_sheet 46 = .ok (.iload_n 3, 1) := by decide +kernel
theorem dX7_sheet_47 : decode cX7_sheet 47 = .ok (.iastore, 1) := by decide +kernel
theorem dX7_sheet_48 : decode cX7_sheet 48 = .ok (.iconst 0, 1) := by decide +kernel
theorem dX7_sheet_49 : decode cX7_sheet 49 = .ok (.istore 4, 2) := by decide +kernel
theorem dX7_sheet_51 : decode cX7_sheet 51 = .ok (.iload 4, 2) := by decide +kernel
theorem dX7_sheet_53 : decode cX7_sheet 53 = .ok (.bipush 24, 2) := by decide +kernel
theorem dX7_sheet_55 : decode cX7_sheet 55 = .ok (.if_icmp .ge 22, 3) := by decide +kernel
theorem dX7_sheet_58 : decode cX7_sheet 58 = .ok (.aload_n 0, 1) := by decide +kernel
theorem dX7_sheet_59 : decode cX7_sheet 59 = .ok (.getfield 50, 3) := by decide +kernel
theorem dX7_sheet_62 : decode cX7_sheet 62 = .ok (.bipush 24, 2) := by decide +kernel
theorem dX7_sheet_64 : decode cX7_sheet 64 = .ok (.iload_n 1, 1) := by decide +kernel
theorem dX7_sheet_65 : decode cX7_sheet 65 = .ok (.imul, 1) := by decide +kernel
theorem dX7_sheet_66 : decode cX7_sheet 66 = .ok (.iload 4, 2) := by decide +kernel
theorem dX7_sheet_68 : decode cX7_sheet 68 = .ok (.iadd, 1) := by decide +kernel
theorem dX7_sheet_69 : decode cX7_sheet 69 = .ok (.lconst 0, 1) := by decide +kernel
theorem dX7_sheet_70 : decode cX7_sheet 70 = .ok (.lastore, 1) := by decide +kernel
theorem dX7_sheet_71 : decode cX7_sheet 71 = .ok (.iinc 4 1, 3) := by decide +kernel
theorem dX7_sheet_74 : decode cX7_sheet 74 = .ok (.goto (-23), 3) := by decide +kernel
theorem dX7_sheet_77 : decode cX7_sheet 77 = .ok (.iload_n 3, 1) := by decide +kernel
theorem dX7_sheet_78 : decode cX7_sheet 78 = .ok (.ireturn, 1) := by decide +kernel
theorem dX7_drop_0 : decode cX7_drop 0 = .ok (.iload_n 1, 1) := by decide +kernel
theorem dX7_drop_1 : decode cX7_drop 1 = .ok (.invokestatic 203, 3) := by decide +kernel
theorem dX7_drop_4 : decode cX7_drop 4 = .ok (.ifCond .ne 5, 3) := by decide +kernel
theorem dX7_drop_7 : decode cX7_drop 7 = .ok (.iconst (-1), 1) := by decide +kernel
theorem dX7_drop_8 : decode cX7_drop 8 = .ok (.ireturn, 1) := by decide +kernel
theorem dX7_drop_9 : decode cX7_drop 9 = .ok (.aload_n 0, 1) := by decide +kernel
theorem dX7_drop_10 : decode cX7_drop 10 = .ok (.getfield 44, 3) := by decide +kernel
theorem dX7_drop_13 : decode cX7_drop 13 = .ok (.iload_n 1, 1) := by decide +kernel
theorem dX7_drop_14 : decode cX7_drop 14 = .ok (.iaload, 1) := by decide +kernel
theorem dX7_drop_15 : decode cX7_drop 15 = .ok (.ifCond .ge 6, 3) := by decide +kernel
theorem dX7_drop_18 : decode cX7_drop 18 = .ok (.bipush (-11), 2) := by decide +kernel
theorem dX7_drop_20 : decode cX7_drop 20 = .ok (.ireturn, 1) := by decide +kernel
theorem dX7_drop_21 : decode cX7_drop 21 = .ok (.aload_n 0, 1) := by decide +kernel
theorem dX7_drop_22 : decode cX7_drop 22 = .ok (.getfield 44, 3) := by decide +kernel
theorem dX7_drop_25 : decode cX7_drop 25 = .ok (.iload_n 1, 1) := by decide +kernel
theorem dX7_drop_26 : decode cX7_drop 26 = .ok (.iconst (-1), 1) := by decide +kernel
theorem dX7_drop_27 : decode cX7_drop 27 = .ok (.iastore, 1) := by decide +kernel
theorem dX7_drop_28 : decode cX7_drop 28 = .ok (.aload_n 0, 1) := by decide +kernel
theorem dX7_drop_29 : decode cX7_drop 29 = .ok (.getfield 47, 3) := by decide +kernel
theorem dX7_drop_32 : decode cX7_drop 32 = .ok (.iload_n 1, 1) := by decide +kernel
theorem dX7_drop_33 : decode cX7_drop 33 = .ok (.iaload, 1) := by decide +kernel
theorem dX7_drop_34 : decode cX7_drop 34 = .ok (.ireturn, 1) := by decide +kernel
theorem dX7_why_0 : decode cX7_why 0 = .ok (.aload_n 0, 1) := by decide +kernel
theorem dX7_why_1 : decode cX7_why 1 = .ok (.getfield 44, 3) := by decide +kernel
theorem dX7_why_4 : decode cX7_why 4 = .ok (.iload_n 1, 1) := by decide +kernel
theorem dX7_why_5 : decode cX7_why 5 = .ok (.iaload, 1) := by decide +kernel
theorem dX7_why_6 : decode cX7_why 6 = .ok (.ifCond .ge 6, 3) := by decide +kernel
theorem dX7_why_9 : decode cX7_why 9 = .ok (.bipush (-11), 2) := by decide +kernel
theorem dX7_why_11 : decode cX7_why 11 = .ok (.ireturn, 1) := by decide +kernel
theorem dX7_why_12 : decode cX7_why 12 = .ok (.aload_n 0, 1) := by decide +kernel
theorem dX7_why_13 : decode cX7_why 13 = .ok (.getfield 44, 3) := by decide +kernel
theorem dX7_why_16 : decode cX7_why 16 = .ok (.iload_n 1, 1) := by decide +kernel
theorem dX7_why_17 : decode cX7_why 17 = .ok (.iaload, 1) := by decide +kernel
theorem dX7_why_18 : decode cX7_why 18 = .ok (.iload_n 2, 1) := by decide +kernel
theorem dX7_why_19 : decode cX7_why 19 = .ok (.if_icmp .eq 6, 3) := by decide +kernel
theorem dX7_why_22 : decode cX7_why 22 = .ok (.bipush (-12), 2) := by decide +kernel
theorem dX7_why_24 : decode cX7_why 24 = .ok (.ireturn, 1) := by decide +kernel
theorem dX7_why_25 : decode cX7_why 25 = .ok (.iload_n 3, 1) := by decide +kernel
theorem dX7_why_26 : decode cX7_why 26 = .ok (.ifCond .lt 16, 3) := by decide +kernel
theorem dX7_why_29 : decode cX7_why 29 = .ok (.iload 4, 2) := by decide +kernel
theorem dX7_why_31 : decode cX7_why 31 = .ok (.aload_n 0, 1) := by decide +kernel
theorem dX7_why_32 : decode cX7_why 32 = .ok (.getfield 47, 3) := by decide +kernel
theorem dX7_why_35 : decode cX7_why 35 = .ok (.iload_n 1, 1) := by decide +kernel
theorem dX7_why_36 : decode cX7_why 36 = .ok (.iaload, 1) := by decide +kernel
theorem dX7_why_37 : decode cX7_why 37 = .ok (.iload_n 3, 1) := by decide +kernel
theorem dX7_why_38 : decode cX7_why 38 = .ok (.isub, 1) := by decide +kernel
theorem dX7_why_39 : decode cX7_why 39 = .ok (.if_icmp .le 8, 3) := by decide +kernel
theorem dX7_why_42 : decode cX7_why 42 = .ok (.bipush (-13), 2) := by decide +kernel
theorem dX7_why_44 : decode cX7_why 44 = .ok (.goto 4, 3) := by decide +kernel
theorem dX7_why_47 : decode cX7_why 47 = .ok (.iconst 0, 1) := by decide +kernel
theorem dX7_why_48 : decode cX7_why 48 = .ok (.ireturn, 1) := by decide +kernel
theorem dX7_item_0 : decode cX7_item 0 = .ok (.iload_n 1, 1) := by decide +kernel
theorem dX7_item_1 : decode cX7_item 1 = .ok (.invokestatic 203, 3) := by decide +kernel
theorem dX7_item_4 : decode cX7_item 4 = .ok (.ifCond .eq 15, 3) := by decide +kernel
theorem dX7_item_7 : decode cX7_item 7 = .ok (.iload_n 2, 1) := by decide +kernel
theorem dX7_item_8 : decode cX7_item 8 = .ok (.i2l, 1) := by decide +kernel
theorem dX7_item_9 : decode cX7_item 9 = .ok (.lconst 0, 1) := by decide +kernel
theorem dX7_item_10 : decode cX7_item 10 = .ok (.ldc2_w 201, 3) := by decide +kernel
theorem dX7_item_13 : decode cX7_item 13 = .ok (.invokestatic 57, 3) := by decide +kernel
theorem dX7_item_16 : decode cX7_item 16 = .ok (.ifCond .ne 5, 3) := by decide +kernel
theorem dX7_item_19 : decode cX7_item 19 = .ok (.iconst (-1), 1) := by decide +kernel
theorem dX7_item_20 : decode cX7_item 20 = .ok (.ireturn, 1) := by decide +kernel
theorem dX7_item_21 : decode cX7_item 21 = .ok (.aload_n 0, 1) := by decide +kernel
theorem dX7_item_22 : decode cX7_item 22 = .ok (.iload_n 1, 1) := by decide +kernel
theorem dX7_item_23 : decode cX7_item 23 = .ok (.iload_n 2, 1) := by decide +kernel
theorem dX7_item_24 : decode cX7_item 24 = .ok (.iload_n 3, 1) := by decide +kernel
theorem dX7_item_25 : decode cX7_item 25 = .ok (.iconst 1, 1) := by decide +kernel
theorem dX7_item_26 : decode cX7_item 26 = .ok (.invokevirtual 206, 3) := by decide +kernel
theorem dX7_item_29 : decode cX7_item 29 = .ok (.istore 6, 2) := by decide +kernel
theorem dX7_item_31 : decode cX7_item 31 = .ok (.iload 6, 2) := by decide +kernel
theorem dX7_item_33 : decode cX7_item 33 = .ok (.ifCond .ge 6, 3) := by decide +kernel
theorem dX7_item_36 : decode cX7_item 36 = .ok (.iload 6, 2) := by decide +kernel
theorem dX7_item_38 : decode cX7_item 38 = .ok (.ireturn, 1) := by decide +kernel
theorem dX7_item_39 : decode cX7_item 39 = .ok (.aload_n 0, 1) := by decide +kernel
theorem dX7_item_40 : decode cX7_item 40 = .ok (.getfield 50, 3) := by decide +kernel
theorem dX7_item_43 : decode cX7_item 43 = .ok (.bipush 24, 2) := by decide +kernel
theorem dX7_item_45 : decode cX7_item 45 = .ok (.iload_n 1, 1) := by decide +kernel
theorem dX7_item_46 : decode cX7_item 46 = .ok (.imul, 1) := by decide +kernel
theorem dX7_item_47 : decode cX7_item 47 = .ok (.iload_n 3, 1) := by decide +kernel
theorem dX7_item_48 : decode cX7_item 48 = .ok (.iadd, 1) := by decide +kernel
theorem dX7_item_49 : decode cX7_item 49 = .ok (.lload 4, 2) := by decide +kernel
theorem dX7_item_51 : decode cX7_item 51 = .ok (.iload_n 2, 1) := by decide +kernel
theorem dX7_item_52 : decode cX7_item 52 = .ok (.invokestatic 210, 3) := by decide +kernel
theorem dX7_item_55 : decode cX7_item 55 = .ok (.lastore, 1) := by decide +kernel
theorem dX7_item_56 : decode cX7_item 56 = .ok (.iconst 1, 1) := by decide +kernel
theorem dX7_item_57 : decode cX7_item 57 = .ok (.ireturn, 1) := by decide +kernel
theorem dX7_copy_0 : decode cX7_copy 0 = .ok (.iload_n 1, 1) := by decide +kernel
theorem dX7_copy_1 : decode cX7_copy 1 = .ok (.invokestatic 203, 3) := by decide +kernel
theorem dX7_copy_4 : decode cX7_copy 4 = .ok (.ifCond .eq 10, 3) := by decide +kernel
theorem dX7_copy_7 : decode cX7_copy 7 = .ok (.iload_n 3, 1) := by decide +kernel
theorem dX7_copy_8 : decode cX7_copy 8 = .ok (.invokestatic 203, 3) := by decide +kernel
theorem dX7_copy_11 : decode cX7_copy 11 = .ok (.ifCond .ne 5, 3) := by decide +kernel
theorem dX7_copy_14 : decode cX7_copy 14 = .ok (.iconst (-1), 1) := by decide +kernel
theorem dX7_copy_15 : decode cX7_copy 15 = .ok (.ireturn, 1) := by decide +kernel
theorem dX7_copy_16 : decode cX7_copy 16 = .ok (.aload_n 0, 1) := by decide +kernel
theorem dX7_copy_17 : decode cX7_copy 17 = .ok (.getfield 44, 3) := by decide +kernel
theorem dX7_copy_20 : decode cX7_copy 20 = .ok (.iload_n 1, 1) := by decide +kernel
theorem dX7_copy_21 : decode cX7_copy 21 = .ok (.iaload, 1) := by decide +kernel
theorem dX7_copy_22 : decode cX7_copy 22 = .ok (.ifCond .lt 12, 3) := by decide +kernel
theorem dX7_copy_25 : decode cX7_copy 25 = .ok (.aload_n 0, 1) := by decide +kernel
theorem dX7_copy_26 : decode cX7_copy 26 = .ok (.getfield 44, 3) := by decide +kernel
theorem dX7_copy_29 : decode cX7_copy 29 = .ok (.iload_n 3, 1) := by decide +kernel
theorem dX7_copy_30 : decode cX7_copy 30 = .ok (.iaload, 1) := by decide +kernel
theorem dX7_copy_31 : decode cX7_copy 31 = .ok (.ifCond .ge 6, 3) := by decide +kernel
theorem dX7_copy_34 : decode cX7_copy 34 = .ok (.bipush (-11), 2) := by decide +kernel
theorem dX7_copy_36 : decode cX7_copy 36 = .ok (.ireturn, 1) := by decide +kernel
theorem dX7_copy_37 : decode cX7_copy 37 = .ok (.aload_n 0, 1) := by decide +kernel
theorem dX7_copy_38 : decode cX7_copy 38 = .ok (.getfield 44, 3) := by decide +kernel
theorem dX7_copy_41 : decode cX7_copy 41 = .ok (.iload_n 1, 1) := by decide +kernel
theorem dX7_copy_42 : decode cX7_copy 42 = .ok (.iaload, 1) := by decide +kernel
theorem dX7_copy_43 : decode cX7_copy 43 = .ok (.aload_n 0, 1) := by decide +kernel
theorem dX7_copy_44 : decode cX7_copy 44 = .ok (.getfield 44, 3) := by decide +kernel
theorem dX7_copy_47 : decode cX7_copy 47 = .ok (.iload_n 3, 1) := by decide +kernel
theorem dX7_copy_48 : decode cX7_copy 48 = .ok (.iaload, 1) := by decide +kernel
theorem dX7_copy_49 : decode cX7_copy 49 = .ok (.if_icmp .eq 6, 3) := by decide +kernel
theorem dX7_copy_52 : decode cX7_copy 52 = .ok (.bipush (-12), 2) := by decide +kernel
theorem dX7_copy_54 : decode cX7_copy 54 = .ok (.ireturn, 1) := by decide +kernel
theorem dX7_copy_55 : decode cX7_copy 55 = .ok (.iload 5, 2) := by decide +kernel
theorem dX7_copy_57 : decode cX7_copy 57 = .ok (.ifCond .lt 47, 3) := by decide +kernel
theorem dX7_copy_60 : decode cX7_copy 60 = .ok (.iload_n 2, 1) := by decide +kernel
theorem dX7_copy_61 : decode cX7_copy 61 = .ok (.ifCond .lt 43, 3) := by decide +kernel
theorem dX7_copy_64 : decode cX7_copy 64 = .ok (.iload 4, 2) := by decide +kernel
theorem dX7_copy_66 : decode cX7_copy 66 = .ok (.ifCond .lt 38, 3) := by decide +kernel
theorem dX7_copy_69 : decode cX7_copy 69 = .ok (.iload_n 2, 1) := by decide +kernel
theorem dX7_copy_70 : decode cX7_copy 70 = .ok (.i2l, 1) := by decide +kernel
theorem dX7_copy_71 : decode cX7_copy 71 = .ok (.iload 5, 2) := by decide +kernel
theorem dX7_copy_73 : decode cX7_copy 73 = .ok (.i2l, 1) := by decide +kernel
theorem dX7_copy_74 : decode cX7_copy 74 = .ok (.ladd, 1) := by decide +kernel
theorem dX7_copy_75 : decode cX7_copy 75 = .ok (.aload_n 0, 1) := by decide +kernel
theorem dX7_copy_76 : decode cX7_copy 76 = .ok (.getfield 47, 3) := by decide +kernel
theorem dX7_copy_79 : decode cX7_copy 79 = .ok (.iload_n 1, 1) := by decide +kernel
theorem dX7_copy_80 : decode cX7_copy 80 = .ok (.iaload, 1) := by decide +kernel
theorem dX7_copy_81 : decode cX7_copy 81 = .ok (.i2l, 1) := by decide +kernel
theorem dX7_copy_82 : decode cX7_copy 82 = .ok (.lcmp, 1) := by decide +kernel
theorem dX7_copy_83 : decode cX7_copy 83 = .ok (.ifCond .gt 21, 3) := by decide +kernel
theorem dX7_copy_86 : decode cX7_copy 86 = .ok (.iload 4, 2) := by decide +kernel
theorem dX7_copy_88 : decode cX7_copy 88 = .ok (.i2l, 1) := by decide +kernel
theorem dX7_copy_89 : decode cX7_copy 89 = .ok (.iload 5, 2) := by decide +kernel
theorem dX7_copy_91 : decode cX7_copy 91 = .ok (.i2l, 1) := by decide +kernel
theorem dX7_copy_92 : decode cX7_copy 92 = .ok (.ladd, 1) := by decide +kernel
theorem dX7_copy_93 : decode cX7_copy 93 = .ok (.aload_n 0, 1) := by decide +kernel
theorem dX7_copy_94 : decode cX7_copy 94 = .ok (.getfield 47, 3) := by decide +kernel
theorem dX7_copy_97 : decode cX7_copy 97 = .ok (.iload_n 3, 1) := by decide +kernel
theorem dX7_copy_98 : decode cX7_copy 98 = .ok (.iaload, 1) := by decide +kernel
theorem dX7_copy_99 : decode cX7_copy 99 = .ok (.i2l, 1) := by decide +kernel
theorem dX7_copy_100 : decode cX7_copy 100 = .ok (.lcmp, 1) := by decide +kernel
theorem dX7_copy_101 : decode cX7_copy 101 = .ok (.ifCond .le 6, 3) := by decide +kernel
theorem dX7_copy_104 : decode cX7_copy 104 = .ok (.bipush (-13), 2) := by decide +kernel
theorem dX7_copy_106 : decode cX7_copy 106 = .ok (.ireturn, 1) := by decide +kernel
theorem dX7_copy_107 : decode cX7_copy 107 = .ok (.iconst 0, 1) := by decide +kernel
theorem dX7_copy_108 : decode cX7_copy 108 = .ok (.istore 6, 2) := by decide +kernel
theorem dX7_copy_110 : decode cX7_copy 110 = .ok (.iload 6, 2) := by decide +kernel
theorem dX7_copy_112 : decode cX7_copy 112 = .ok (.iload 5, 2) := by decide +kernel
theorem dX7_copy_114 : decode cX7_copy 114 = .ok (.if_icmp .ge 30, 3) := by decide +kernel
theorem dX7_copy_117 : decode cX7_copy 117 = .ok (.aload_n 0, 1) := by decide +kernel
theorem dX7_copy_118 : decode cX7_copy 118 = .ok (.getfield 54, 3) := by decide +kernel
theorem dX7_copy_121 : decode cX7_copy 121 = .ok (.iload 6, 2) := by decide +kernel
theorem dX7_copy_123 : decode cX7_copy 123 = .ok (.aload_n 0, 1) := by decide +kernel
theorem dX7_copy_124 : decode cX7_copy 124 = .ok (.getfield 50, 3) := by decide +kernel
theorem dX7_copy_127 : decode cX7_copy 127 = .ok (.bipush 24, 2) := by decide +kernel
theorem dX7_copy_129 : decode cX7_copy 129 = .ok (.iload_n 1, 1) := by decide +kernel
theorem dX7_copy_130 : decode cX7_copy 130 = .ok (.imul, 1) := by decide +kernel
theorem dX7_copy_131 : decode cX7_copy 131 = .ok (.iload_n 2, 1) := by decide +kernel
theorem dX7_copy_132 : decode cX7_copy 132 = .ok (.iadd, 1) := by decide +kernel
theorem dX7_copy_133 : decode cX7_copy 133 = .ok (.iload 6, 2) := by decide +kernel
theorem dX7_copy_135 : decode cX7_copy 135 = .ok (.iadd, 1) := by decide +kernel
theorem dX7_copy_136 : decode cX7_copy 136 = .ok (.laload, 1) := by decide +kernel
theorem dX7_copy_137 : decode cX7_copy 137 = .ok (.lastore, 1) := by decide +kernel
theorem dX7_copy_138 : decode cX7_copy 138 = .ok (.iinc 6 1, 3) := by decide +kernel
theorem dX7_copy_141 : decode cX7_copy 141 = .ok (.goto (-31), 3) := by decide +kernel
theorem dX7_copy_144 : decode cX7_copy 144 = .ok (.iconst 0, 1) := by decide +kernel
theorem dX7_copy_145 : decode cX7_copy 145 = .ok (.istore 6, 2) := by decide +kernel
theorem dX7_copy_147 : decode cX7_copy 147 = .ok (.iload 6, 2) := by decide +kernel
theorem dX7_copy_149 : decode cX7_copy 149 = .ok (.iload 5, 2) := by decide +kernel
theorem dX7_copy_151 : decode cX7_copy 151 = .ok (.if_icmp .ge 31, 3) := by decide +kernel
theorem dX7_copy_154 : decode cX7_copy 154 = .ok (.aload_n 0, 1) := by decide +kernel
theorem dX7_copy_155 : decode cX7_copy 155 = .ok (.getfield 50, 3) := by decide +kernel
theorem dX7_copy_158 : decode cX7_copy 158 = .ok (.bipush 24, 2) := by decide +kernel
theorem dX7_copy_160 : decode cX7_copy 160 = .ok (.iload_n 3, 1) := by decide +kernel
theorem dX7_copy_161 : decode cX7_copy 161 = .ok (.imul, 1) := by decide +kernel
theorem dX7_copy_162 : decode cX7_copy 162 = .ok (.iload 4, 2) := by decide +kernel
theorem dX7_copy_164 : decode cX7_copy 164 = .ok (.iadd, 1) := by decide +kernel
theorem dX7_copy_165 : decode cX7_copy 165 = .ok (.iload 6, 2) := by decide +kernel
theorem dX7_copy_167 : decode cX7_copy 167 = .ok (.iadd, 1) := by decide +kernel
theorem dX7_copy_168 : decode cX7_copy 168 = .ok (.aload_n 0, 1) := by decide +kernel
theorem dX7_copy_169 : decode cX7_copy 169 = .ok (.getfield 54, 3) := by decide +kernel
theorem dX7_copy_172 : decode cX7_copy 172 = .ok (.iload 6, 2) := by decide +kernel
theorem dX7_copy_174 : decode cX7_copy 174 = .ok (.laload, 1) := by decide +kernel
theorem dX7_copy_175 : decode cX7_copy 175 = .ok (.lastore, 1) := by decide +kernel
theorem dX7_copy_176 : decode cX7_copy 176 = .ok (.iinc 6 1, 3) := by decide +kernel
theorem dX7_copy_179 : decode cX7_copy 179 = .ok (.goto (-32), 3) := by decide +kernel
theorem dX7_copy_182 : decode cX7_copy 182 = .ok (.iload 5, 2) := by decide +kernel
theorem dX7_copy_184 : decode cX7_copy 184 = .ok (.ireturn, 1) := by decide +kernel
theorem dX7_areNumbers_0 : decode cX7_areNumbers 0 = .ok (.iconst 1, 1) := by decide +kernel
theorem dX7_areNumbers_1 : decode cX7_areNumbers 1 = .ok (.istore_n 3, 1) := by decide +kernel
theorem dX7_areNumbers_2 : decode cX7_areNumbers 2 = .ok (.iconst 0, 1) := by decide +kernel
theorem dX7_areNumbers_3 : decode cX7_areNumbers 3 = .ok (.istore 4, 2) := by decide +kernel
theorem dX7_areNumbers_5 : decode cX7_areNumbers 5 = .ok (.iload 4, 2) := by decide +kernel
theorem dX7_areNumbers_7 : decode cX7_areNumbers 7 = .ok (.iload_n 2, 1) := by decide +kernel
theorem dX7_areNumbers_8 : decode cX7_areNumbers 8 = .ok (.if_icmp .ge 35, 3) := by decide +kernel
theorem dX7_areNumbers_11 : decode cX7_areNumbers 11 = .ok (.iload_n 3, 1) := by decide +kernel
theorem dX7_areNumbers_12 : decode cX7_areNumbers 12 = .ok (.ifCond .eq 23, 3) := by decide +kernel
theorem dX7_areNumbers_15 : decode cX7_areNumbers 15 = .ok (.aload_n 0, 1) := by decide +kernel
theorem dX7_areNumbers_16 : decode cX7_areNumbers 16 = .ok (.aload_n 0, 1) := by decide +kernel
theorem dX7_areNumbers_17 : decode cX7_areNumbers 17 = .ok (.getfield 50, 3) := by decide +kernel
theorem dX7_areNumbers_20 : decode cX7_areNumbers 20 = .ok (.iload_n 1, 1) := by decide +kernel
theorem dX7_areNumbers_21 : decode cX7_areNumbers 21 = .ok (.iload 4, 2) := by decide +kernel
theorem dX7_areNumbers_23 : decode cX7_areNumbers 23 = .ok (.iadd, 1) := by decide +kernel
theorem dX7_areNumbers_24 : decode cX7_areNumbers 24 = .ok (.laload, 1) := by decide +kernel
theorem dX7_areNumbers_25 : decode cX7_areNumbers 25 = .ok (.invokevirtual 146, 3) := by decide +kernel
theorem dX7_areNumbers_28 : decode cX7_areNumbers 28 = .ok (.ifCond .eq 7, 3) := by decide +kernel
theorem dX7_areNumbers_31 : decode cX7_areNumbers 31 = .ok (.iconst 1, 1) := by decide +kernel
theorem dX7_areNumbers_32 : decode cX7_areNumbers 32 = .ok (.goto 4, 3) := by decide +kernel
theorem dX7_areNumbers_35 : decode cX7_areNumbers 35 = .ok (.iconst 0, 1) := by decide +kernel
theorem dX7_areNumbers_36 : decode cX7_areNumbers 36 = .ok (.istore_n 3, 1) := by decide +kernel
theorem dX7_areNumbers_37 : decode cX7_areNumbers 37 = .ok (.iinc 4 1, 3) := by decide +kernel
theorem dX7_areNumbers_40 : decode cX7_areNumbers 40 = .ok (.goto (-35), 3) := by decide +kernel
theorem dX7_areNumbers_43 : decode cX7_areNumbers 43 = .ok (.iload_n 3, 1) := by decide +kernel
theorem dX7_areNumbers_44 : decode cX7_areNumbers 44 = .ok (.ireturn, 1) := by decide +kernel
theorem dX7_comes_0 : decode cX7_comes 0 = .ok (.lconst 0, 1) := by decide +kernel
theorem dX7_comes_1 : decode cX7_comes 1 = .ok (.lstore 4, 2) := by decide +kernel
theorem dX7_comes_3 : decode cX7_comes 3 = .ok (.iconst 0, 1) := by decide +kernel
theorem dX7_comes_4 : decode cX7_comes 4 = .ok (.istore 6, 2) := by decide +kernel
theorem dX7_comes_6 : decode cX7_comes 6 = .ok (.iload 6, 2) := by decide +kernel
theorem dX7_comes_8 : decode cX7_comes 8 = .ok (.aload_n 0, 1) := by decide +kernel
theorem dX7_comes_9 : decode cX7_comes 9 = .ok (.getfield 7, 3) := by decide +kernel
theorem dX7_comes_12 : decode cX7_comes 12 = .ok (.iconst 0, 1) := by decide +kernel
theorem dX7_comes_13 : decode cX7_comes 13 = .ok (.iaload, 1) := by decide +kernel
theorem dX7_comes_14 : decode cX7_comes 14 = .ok (.if_icmp .ge 33, 3) := by decide +kernel
theorem dX7_comes_17 : decode cX7_comes 17 = .ok (.lload 4, 2) := by decide +kernel
theorem dX7_comes_19 : decode cX7_comes 19 = .ok (.aload_n 0, 1) := by decide +kernel
theorem dX7_comes_20 : decode cX7_comes 20 = .ok (.iload_n 1, 1) := by decide +kernel
theorem dX7_comes_21 : decode cX7_comes 21 = .ok (.iload_n 3, 1) := by decide +kernel
theorem dX7_comes_22 : decode cX7_comes 22 = .ok (.iload 6, 2) := by decide +kernel
theorem dX7_comes_24 : decode cX7_comes 24 = .ok (.invokevirtual 65, 3) := by decide +kernel
theorem dX7_comes_27 : decode cX7_comes 27 = .ok (.i2l, 1) := by decide +kernel
theorem dX7_comes_28 : decode cX7_comes 28 = .ok (.aload_n 0, 1) := by decide +kernel
theorem dX7_comes_29 : decode cX7_comes 29 = .ok (.getfield 50, 3) := by decide +kernel
theorem dX7_comes_32 : decode cX7_comes 32 = .ok (.iload_n 2, 1) := by decide +kernel
theorem dX7_comes_33 : decode cX7_comes 33 = .ok (.iload 6, 2) := by decide +kernel
theorem dX7_comes_35 : decode cX7_comes 35 = .ok (.iadd, 1) := by decide +kernel
theorem dX7_comes_36 : decode cX7_comes 36 = .ok (.laload, 1) := by decide +kernel
theorem dX7_comes_37 : decode cX7_comes 37 = .ok (.lmul, 1) := by decide +kernel
theorem dX7_comes_38 : decode cX7_comes 38 = .ok (.ladd, 1) := by decide +kernel
theorem dX7_comes_39 : decode cX7_comes 39 = .ok (.lstore 4, 2) := by decide +kernel
theorem dX7_comes_41 : decode cX7_comes 41 = .ok (.iinc 6 1, 3) := by decide +kernel
theorem dX7_comes_44 : decode cX7_comes 44 = .ok (.goto (-38), 3) := by decide +kernel
theorem dX7_comes_47 : decode cX7_comes 47 = .ok (.lload 4, 2) := by decide +kernel
theorem dX7_comes_49 : decode cX7_comes 49 = .ok (.aload_n 0, 1) := by decide +kernel
theorem dX7_comes_50 : decode cX7_comes 50 = .ok (.getfield 7, 3) := by decide +kernel
theorem dX7_comes_53 : decode cX7_comes 53 = .ok (.iconst 2, 1) := by decide +kernel
theorem dX7_comes_54 : decode cX7_comes 54 = .ok (.iaload, 1) := by decide +kernel
theorem dX7_comes_55 : decode cX7_comes 55 = .ok (.i2l, 1) := by decide +kernel
theorem dX7_comes_56 : decode cX7_comes 56 = .ok (.lrem, 1) := by decide +kernel
theorem dX7_comes_57 : decode cX7_comes 57 = .ok (.l2i, 1) := by decide +kernel
theorem dX7_comes_58 : decode cX7_comes 58 = .ok (.ireturn, 1) := by decide +kernel
theorem dX7_came_0 : decode cX7_came 0 = .ok (.iload_n 1, 1) := by decide +kernel
theorem dX7_came_1 : decode cX7_came 1 = .ok (.invokestatic 203, 3) := by decide +kernel
theorem dX7_came_4 : decode cX7_came 4 = .ok (.ifCond .eq 15, 3) := by decide +kernel
theorem dX7_came_7 : decode cX7_came 7 = .ok (.iload_n 2, 1) := by decide +kernel
theorem dX7_came_8 : decode cX7_came 8 = .ok (.i2l, 1) := by decide +kernel
theorem dX7_came_9 : decode cX7_came 9 = .ok (.lconst 0, 1) := by decide +kernel
theorem dX7_came_10 : decode cX7_came 10 = .ok (.ldc2_w 201, 3) := by decide +kernel
theorem dX7_came_13 : decode cX7_came 13 = .ok (.invokestatic 57, 3) := by decide +kernel
theorem dX7_came_16 : decode cX7_came 16 = .ok (.ifCond .ne 5, 3) := by decide +kernel
theorem dX7_came_19 : decode cX7_came 19 = .ok (.iconst (-1), 1) := by decide +kernel
theorem dX7_came_20 : decode cX7_came 20 = .ok (.ireturn, 1) := by decide +kernel
theorem dX7_came_21 : decode cX7_came 21 = .ok (.aload_n 0, 1) := by decide +kernel
theorem dX7_came_22 : decode cX7_came 22 = .ok (.getfield 7, 3) := by decide +kernel
theorem dX7_came_25 : decode cX7_came 25 = .ok (.iconst 0, 1) := by decide +kernel
theorem dX7_came_26 : decode cX7_came 26 = .ok (.iaload, 1) := by decide +kernel
theorem dX7_came_27 : decode cX7_came 27 = .ok (.istore 4, 2) := by decide +kernel
theorem dX7_came_29 : decode cX7_came 29 = .ok (.aload_n 0, 1) := by decide +kernel
theorem dX7_came_30 : decode cX7_came 30 = .ok (.iload_n 1, 1) := by decide +kernel
theorem dX7_came_31 : decode cX7_came 31 = .ok (.iload_n 2, 1) := by decide +kernel
theorem dX7_came_32 : decode cX7_came 32 = .ok (.iload_n 3, 1) := by decide +kernel
theorem dX7_came_33 : decode cX7_came 33 = .ok (.iconst 2, 1) := by decide +kernel
theorem dX7_came_34 : decode cX7_came 34 = .ok (.iload 4, 2) := by decide +kernel
theorem dX7_came_36 : decode cX7_came 36 = .ok (.imul, 1) := by decide +kernel
theorem dX7_came_37 : decode cX7_came 37 = .ok (.invokevirtual 206, 3) := by decide +kernel
theorem dX7_came_40 : decode cX7_came 40 = .ok (.istore 5, 2) := by decide +kernel
theorem dX7_came_42 : decode cX7_came 42 = .ok (.iload 5, 2) := by decide +kernel
theorem dX7_came_44 : decode cX7_came 44 = .ok (.ifCond .ge 6, 3) := by decide +kernel
theorem dX7_came_47 : decode cX7_came 47 = .ok (.iload 5, 2) := by decide +kernel
theorem dX7_came_49 : decode cX7_came 49 = .ok (.ireturn, 1) := by decide +kernel
theorem dX7_came_50 : decode cX7_came 50 = .ok (.bipush 24, 2) := by decide +kernel
theorem dX7_came_52 : decode cX7_came 52 = .ok (.iload_n 1, 1) := by decide +kernel
theorem dX7_came_53 : decode cX7_came 53 = .ok (.imul, 1) := by decide +kernel
theorem dX7_came_54 : decode cX7_came 54 = .ok (.iload_n 3, 1) := by decide +kernel
theorem dX7_came_55 : decode cX7_came 55 = .ok (.iadd, 1) := by decide +kernel
theorem dX7_came_56 : decode cX7_came 56 = .ok (.istore 6, 2) := by decide +kernel
theorem dX7_came_58 : decode cX7_came 58 = .ok (.iconst 0, 1) := by decide +kernel
theorem dX7_came_59 : decode cX7_came 59 = .ok (.istore 7, 2) := by decide +kernel
theorem dX7_came_61 : decode cX7_came 61 = .ok (.iconst 0, 1) := by decide +kernel
theorem dX7_came_62 : decode cX7_came 62 = .ok (.istore 8, 2) := by decide +kernel
theorem dX7_came_64 : decode cX7_came 64 = .ok (.iload 8, 2) := by decide +kernel
theorem dX7_came_66 : decode cX7_came 66 = .ok (.iconst 5, 1) := by decide +kernel
theorem dX7_came_67 : decode cX7_came 67 = .ok (.if_icmp .ge 99, 3) := by decide +kernel
theorem dX7_came_70 : decode cX7_came 70 = .ok (.aload_n 0, 1) := by decide +kernel
theorem dX7_came_71 : decode cX7_came 71 = .ok (.iload 6, 2) := by decide +kernel
theorem dX7_came_73 : decode cX7_came 73 = .ok (.iconst 2, 1) := by decide +kernel
theorem dX7_came_74 : decode cX7_came 74 = .ok (.iload 4, 2) := by decide +kernel
theorem dX7_came_76 : decode cX7_came 76 = .ok (.imul, 1) := by decide +kernel
theorem dX7_came_77 : decode cX7_came 77 = .ok (.invokevirtual 214, 3) := by decide +kernel
theorem dX7_came_80 : decode cX7_came 80 = .ok (.ifCond .eq 86, 3) := by decide +kernel
theorem dX7_came_83 : decode cX7_came 83 = .ok (.iconst 1, 1) := by decide +kernel
theorem dX7_came_84 : decode cX7_came 84 = .ok (.istore 9, 2) := by decide +kernel
theorem dX7_came_86 : decode cX7_came 86 = .ok (.iconst 0, 1) := by decide +kernel
theorem dX7_came_87 : decode cX7_came 87 = .ok (.istore 10, 2) := by decide +kernel
theorem dX7_came_89 : decode cX7_came 89 = .ok (.iload 10, 2) := by decide +kernel
theorem dX7_came_91 : decode cX7_came 91 = .ok (.iload 4, 2) := by decide +kernel
theorem dX7_came_93 : decode cX7_came 93 = .ok (.if_icmp .ge 49, 3) := by decide +kernel
theorem dX7_came_96 : decode cX7_came 96 = .ok (.iload 9, 2) := by decide +kernel
theorem dX7_came_98 : decode cX7_came 98 = .ok (.ifCond .eq 35, 3) := by decide +kernel
theorem dX7_came_101 : decode cX7_came 101 = .ok (.aload_n 0, 1) := by decide +kernel
theorem dX7_came_102 : decode cX7_came 102 = .ok (.iload 8, 2) := by decide +kernel
theorem dX7_came_104 : decode cX7_came 104 = .ok (.iload 6, 2) := by decide +kernel
theorem dX7_came_106 : decode cX7_came 106 = .ok (.iload 10, 2) := by decide +kernel
theorem dX7_came_108 : decode cX7_came 108 = .ok (.invokevirtual 217, 3) := by decide +kernel
theorem dX7_came_111 : decode cX7_came 111 = .ok (.i2l, 1) := by decide +kernel
theorem dX7_came_112 : decode cX7_came 112 = .ok (.aload_n 0, 1) := by decide +kernel
theorem dX7_came_113 : decode cX7_came 113 = .ok (.getfield 50, 3) := by decide +kernel
theorem dX7_came_116 : decode cX7_came 116 = .ok (.iload 6, 2) := by decide +kernel
theorem dX7_came_118 : decode cX7_came 118 = .ok (.iload 4, 2) := by decide +kernel
theorem dX7_came_120 : decode cX7_came 120 = .ok (.iadd, 1) := by decide +kernel
theorem dX7_came_121 : decode cX7_came 121 = .ok (.iload 10, 2) := by decide +kernel
theorem dX7_came_123 : decode cX7_came 123 = .ok (.iadd, 1) := by decide +kernel
theorem dX7_came_124 : decode cX7_came 124 = .ok (.laload, 1) := by decide +kernel
theorem dX7_came_125 : decode cX7_came 125 = .ok (.lcmp, 1) := by decide +kernel
theorem dX7_came_126 : decode cX7_came 126 = .ok (.ifCond .ne 7, 3) := by decide +kernel
theorem dX7_came_129 : decode cX7_came 129 = .ok (.iconst 1, 1) := by decide +kernel
theorem dX7_came_130 : decode cX7_came 130 = .ok (.goto 4, 3) := by decide +kernel
theorem dX7_came_133 : decode cX7_came 133 = .ok (.iconst 0, 1) := by decide +kernel
theorem dX7_came_134 : decode cX7_came 134 = .ok (.istore 9, 2) := by decide +kernel
theorem dX7_came_136 : decode cX7_came 136 = .ok (.iinc 10 1, 3) := by decide +kernel
theorem dX7_came_139 : decode cX7_came 139 = .ok (.goto (-50), 3) := by decide +kernel
theorem dX7_came_142 : decode cX7_came 142 = .ok (.iload 7, 2) := by decide +kernel
theorem dX7_came_144 : decode cX7_came 144 = .ok (.iload 9, 2) := by decide +kernel
theorem dX7_came_146 : decode cX7_came 146 = .ok (.ifCond .eq 10, 3) := by decide +kernel
theorem dX7_came_149 : decode cX7_came 149 = .ok (.iconst 1, 1) := by decide +kernel
theorem dX7_came_150 : decode cX7_came 150 = .ok (.iload 8, 2) := by decide +kernel
theorem dX7_came_152 : decode cX7_came 152 = .ok (.ishl, 1) := by decide +kernel
theorem dX7_came_153 : decode cX7_came 153 = .ok (.goto 4, 3) := by decide +kernel
theorem dX7_came_156 : decode cX7_came 156 = .ok (.iconst 0, 1) := by decide +kernel
theorem dX7_came_157 : decode cX7_came 157 = .ok (.ior, 1) := by decide +kernel
theorem dX7_came_158 : decode cX7_came 158 = .ok (.istore 7, 2) := by decide +kernel
theorem dX7_came_160 : decode cX7_came 160 = .ok (.iinc 8 1, 3) := by decide +kernel
theorem dX7_came_163 : decode cX7_came 163 = .ok (.goto (-99), 3) := by decide +kernel
theorem dX7_came_166 : decode cX7_came 166 = .ok (.iload 7, 2) := by decide +kernel
theorem dX7_came_168 : decode cX7_came 168 = .ok (.ireturn, 1) := by decide +kernel
theorem dX7_apply_0 : decode cX7_apply 0 = .ok (.iload_n 1, 1) := by decide +kernel
theorem dX7_apply_1 : decode cX7_apply 1 = .ok (.invokestatic 203, 3) := by decide +kernel
theorem dX7_apply_4 : decode cX7_apply 4 = .ok (.ifCond .eq 15, 3) := by decide +kernel
theorem dX7_apply_7 : decode cX7_apply 7 = .ok (.iload_n 2, 1) := by decide +kernel
theorem dX7_apply_8 : decode cX7_apply 8 = .ok (.i2l, 1) := by decide +kernel
theorem dX7_apply_9 : decode cX7_apply 9 = .ok (.lconst 0, 1) := by decide +kernel
theorem dX7_apply_10 : decode cX7_apply 10 = .ok (.ldc2_w 201, 3) := by decide +kernel
theorem dX7_apply_13 : decode cX7_apply 13 = .ok (.invokestatic 57, 3) := by decide +kernel
theorem dX7_apply_16 : decode cX7_apply 16 = .ok (.ifCond .ne 5, 3) := by decide +kernel
theorem dX7_apply_19 : decode cX7_apply 19 = .ok (.iconst (-1), 1) := by decide +kernel
theorem dX7_apply_20 : decode cX7_apply 20 = .ok (.ireturn, 1) := by decide +kernel
theorem dX7_apply_21 : decode cX7_apply 21 = .ok (.aload_n 0, 1) := by decide +kernel
theorem dX7_apply_22 : decode cX7_apply 22 = .ok (.getfield 7, 3) := by decide +kernel
theorem dX7_apply_25 : decode cX7_apply 25 = .ok (.iconst 0, 1) := by decide +kernel
theorem dX7_apply_26 : decode cX7_apply 26 = .ok (.iaload, 1) := by decide +kernel
theorem dX7_apply_27 : decode cX7_apply 27 = .ok (.istore 4, 2) := by decide +kernel
theorem dX7_apply_29 : decode cX7_apply 29 = .ok (.aload_n 0, 1) := by decide +kernel
theorem dX7_apply_30 : decode cX7_apply 30 = .ok (.iload_n 1, 1) := by decide +kernel
theorem dX7_apply_31 : decode cX7_apply 31 = .ok (.iload_n 2, 1) := by decide +kernel
theorem dX7_apply_32 : decode cX7_apply 32 = .ok (.iload_n 3, 1) := by decide +kernel
theorem dX7_apply_33 : decode cX7_apply 33 = .ok (.iconst 2, 1) := by decide +kernel
theorem dX7_apply_34 : decode cX7_apply 34 = .ok (.iload 4, 2) := by decide +kernel
theorem dX7_apply_36 : decode cX7_apply 36 = .ok (.imul, 1) := by decide +kernel
theorem dX7_apply_37 : decode cX7_apply 37 = .ok (.invokevirtual 206, 3) := by decide +kernel
theorem dX7_apply_40 : decode cX7_apply 40 = .ok (.istore 5, 2) := by decide +kernel
theorem dX7_apply_42 : decode cX7_apply 42 = .ok (.iload 5, 2) := by decide +kernel
theorem dX7_apply_44 : decode cX7_apply 44 = .ok (.ifCond .ge 6, 3) := by decide +kernel
theorem dX7_apply_47 : decode cX7_apply 47 = .ok (.iload 5, 2) := by decide +kernel
theorem dX7_apply_49 : decode cX7_apply 49 = .ok (.ireturn, 1) := by decide +kernel
theorem dX7_apply_50 : decode cX7_apply 50 = .ok (.bipush 24, 2) := by decide +kernel
theorem dX7_apply_52 : decode cX7_apply 52 = .ok (.iload_n 1, 1) := by decide +kernel
theorem dX7_apply_53 : decode cX7_apply 53 = .ok (.imul, 1) := by decide +kernel
theorem dX7_apply_54 : decode cX7_apply 54 = .ok (.iload_n 3, 1) := by decide +kernel
theorem dX7_apply_55 : decode cX7_apply 55 = .ok (.iadd, 1) := by decide +kernel
theorem dX7_apply_56 : decode cX7_apply 56 = .ok (.istore 6, 2) := by decide +kernel
theorem dX7_apply_58 : decode cX7_apply 58 = .ok (.aload_n 0, 1) := by decide +kernel
theorem dX7_apply_59 : decode cX7_apply 59 = .ok (.iload 6, 2) := by decide +kernel
theorem dX7_apply_61 : decode cX7_apply 61 = .ok (.iload 4, 2) := by decide +kernel
theorem dX7_apply_63 : decode cX7_apply 63 = .ok (.invokevirtual 214, 3) := by decide +kernel
theorem dX7_apply_66 : decode cX7_apply 66 = .ok (.ifCond .ne 6, 3) := by decide +kernel
theorem dX7_apply_69 : decode cX7_apply 69 = .ok (.bipush (-2), 2) := by decide +kernel
theorem dX7_apply_71 : decode cX7_apply 71 = .ok (.ireturn, 1) := by decide +kernel
theorem dX7_apply_72 : decode cX7_apply 72 = .ok (.iconst 0, 1) := by decide +kernel
theorem dX7_apply_73 : decode cX7_apply 73 = .ok (.istore 7, 2) := by decide +kernel
theorem dX7_apply_75 : decode cX7_apply 75 = .ok (.iload 7, 2) := by decide +kernel
theorem dX7_apply_77 : decode cX7_apply 77 = .ok (.iload 4, 2) := by decide +kernel
theorem dX7_apply_79 : decode cX7_apply 79 = .ok (.if_icmp .ge 37, 3) := by decide +kernel
theorem dX7_apply_82 : decode cX7_apply 82 = .ok (.aload_n 0, 1) := by decide +kernel
theorem dX7_apply_83 : decode cX7_apply 83 = .ok (.getfield 50, 3) := by decide +kernel
theorem dX7_apply_86 : decode cX7_apply 86 = .ok (.iload 6, 2) := by decide +kernel
theorem dX7_apply_88 : decode cX7_apply 88 = .ok (.iload 4, 2) := by decide +kernel
theorem dX7_apply_90 : decode cX7_apply 90 = .ok (.iadd, 1) := by decide +kernel
theorem dX7_apply_91 : decode cX7_apply 91 = .ok (.iload 7, 2) := by decide +kernel
theorem dX7_apply_93 : decode cX7_apply 93 = .ok (.iadd, 1) := by decide +kernel
theorem dX7_apply_94 : decode cX7_apply 94 = .ok (.aload_n 0, 1) := by decide +kernel
theorem dX7_apply_95 : decode cX7_apply 95 = .ok (.aload_n 0, 1) := by decide +kernel
theorem dX7_apply_96 : decode cX7_apply 96 = .ok (.getfield 7, 3) := by decide +kernel
theorem dX7_apply_99 : decode cX7_apply 99 = .ok (.iconst 1, 1) := by decide +kernel
theorem dX7_apply_100 : decode cX7_apply 100 = .ok (.iaload, 1) := by decide +kernel
theorem dX7_apply_101 : decode cX7_apply 101 = .ok (.iload 6, 2) := by decide +kernel
theorem dX7_apply_103 : decode cX7_apply 103 = .ok (.iload 7, 2) := by decide +kernel
theorem dX7_apply_105 : decode cX7_apply 105 = .ok (.invokevirtual 217, 3) := by decide +kernel
theorem dX7_apply_108 : decode cX7_apply 108 = .ok (.i2l, 1) := by decide +kernel
theorem dX7_apply_109 : decode cX7_apply 109 = .ok (.lastore, 1) := by decide +kernel
theorem dX7_apply_110 : decode cX7_apply 110 = .ok (.iinc 7 1, 3) := by decide +kernel
theorem dX7_apply_113 : decode cX7_apply 113 = .ok (.goto (-38), 3) := by decide +kernel
theorem dX7_apply_116 : decode cX7_apply 116 = .ok (.iconst 1, 1) := by decide +kernel
theorem dX7_apply_117 : decode cX7_apply 117 = .ok (.ireturn, 1) := by decide +kernel
theorem dX7_film_0 : decode cX7_film 0 = .ok (.iload_n 1, 1) := by decide +kernel
theorem dX7_film_1 : decode cX7_film 1 = .ok (.invokestatic 203, 3) := by decide +kernel
theorem dX7_film_4 : decode cX7_film 4 = .ok (.ifCond .eq 15, 3) := by decide +kernel
theorem dX7_film_7 : decode cX7_film 7 = .ok (.iload_n 2, 1) := by decide +kernel
theorem dX7_film_8 : decode cX7_film 8 = .ok (.i2l, 1) := by decide +kernel
theorem dX7_film_9 : decode cX7_film 9 = .ok (.lconst 0, 1) := by decide +kernel
theorem dX7_film_10 : decode cX7_film 10 = .ok (.ldc2_w 201, 3) := by decide +kernel
theorem dX7_film_13 : decode cX7_film 13 = .ok (.invokestatic 57, 3) := by decide +kernel
theorem dX7_film_16 : decode cX7_film 16 = .ok (.ifCond .ne 5, 3) := by decide +kernel
theorem dX7_film_19 : decode cX7_film 19 = .ok (.iconst (-1), 1) := by decide +kernel
theorem dX7_film_20 : decode cX7_film 20 = .ok (.ireturn, 1) := by decide +kernel
theorem dX7_film_21 : decode cX7_film 21 = .ok (.aload_n 0, 1) := by decide +kernel
theorem dX7_film_22 : decode cX7_film 22 = .ok (.getfield 7, 3) := by decide +kernel
theorem dX7_film_25 : decode cX7_film 25 = .ok (.iconst 0, 1) := by decide +kernel
theorem dX7_film_26 : decode cX7_film 26 = .ok (.iaload, 1) := by decide +kernel
theorem dX7_film_27 : decode cX7_film 27 = .ok (.istore 4, 2) := by decide +kernel
theorem dX7_film_29 : decode cX7_film 29 = .ok (.aload_n 0, 1) := by decide +kernel
theorem dX7_film_30 : decode cX7_film 30 = .ok (.iload_n 1, 1) := by decide +kernel
theorem dX7_film_31 : decode cX7_film 31 = .ok (.iload_n 2, 1) := by decide +kernel
theorem dX7_film_32 : decode cX7_film 32 = .ok (.iload_n 3, 1) := by decide +kernel
theorem dX7_film_33 : decode cX7_film 33 = .ok (.iload 4, 2) := by decide +kernel
theorem dX7_film_35 : decode cX7_film 35 = .ok (.invokevirtual 206, 3) := by decide +kernel
theorem dX7_film_38 : decode cX7_film 38 = .ok (.istore 5, 2) := by decide +kernel
theorem dX7_film_40 : decode cX7_film 40 = .ok (.iload 5, 2) := by decide +kernel
theorem dX7_film_42 : decode cX7_film 42 = .ok (.ifCond .ge 6, 3) := by decide +kernel
theorem dX7_film_45 : decode cX7_film 45 = .ok (.iload 5, 2) := by decide +kernel
theorem dX7_film_47 : decode cX7_film 47 = .ok (.ireturn, 1) := by decide +kernel
theorem dX7_film_48 : decode cX7_film 48 = .ok (.aload_n 0, 1) := by decide +kernel
theorem dX7_film_49 : decode cX7_film 49 = .ok (.invokevirtual 182, 3) := by decide +kernel
theorem dX7_film_52 : decode cX7_film 52 = .ok (.lstore 6, 2) := by decide +kernel
theorem dX7_film_54 : decode cX7_film 54 = .ok (.lload 6, 2) := by decide +kernel
theorem dX7_film_56 : decode cX7_film 56 = .ok (.lconst 0, 1) := by decide +kernel
theorem dX7_film_57 : decode cX7_film 57 = .ok (.lcmp, 1) := by decide +kernel
theorem dX7_film_58 : decode cX7_film 58 = .ok (.ifCond .ne 6, 3) := by decide +kernel
theorem dX7_film_61 : decode cX7_film 61 = .ok (.bipush (-4), 2) := by decide +kernel
theorem dX7_film_63 : decode cX7_film 63 = .ok (.ireturn, 1) := by decide +kernel
theorem dX7_film_64 : decode cX7_film 64 = .ok (.iconst 0, 1) := by decide +kernel
theorem dX7_film_65 : decode cX7_film 65 = .ok (.istore 8, 2) := by decide +kernel
theorem dX7_film_67 : decode cX7_film 67 = .ok (.iload 8, 2) := by decide +kernel
theorem dX7_film_69 : decode cX7_film 69 = .ok (.iload 4, 2) := by decide +kernel
theorem dX7_film_71 : decode cX7_film 71 = .ok (.if_icmp .ge 32, 3) := by decide +kernel
theorem dX7_film_74 : decode cX7_film 74 = .ok (.aload_n 0, 1) := by decide +kernel
theorem dX7_film_75 : decode cX7_film 75 = .ok (.getfield 50, 3) := by decide +kernel
theorem dX7_film_78 : decode cX7_film 78 = .ok (.bipush 24, 2) := by decide +kernel
theorem dX7_film_80 : decode cX7_film 80 = .ok (.iload_n 1, 1) := by decide +kernel
theorem dX7_film_81 : decode cX7_film 81 = .ok (.imul, 1) := by decide +kernel
theorem dX7_film_82 : decode cX7_film 82 = .ok (.iload_n 3, 1) := by decide +kernel
theorem dX7_film_83 : decode cX7_film 83 = .ok (.iadd, 1) := by decide +kernel
theorem dX7_film_84 : decode cX7_film 84 = .ok (.iload 8, 2) := by decide +kernel
theorem dX7_film_86 : decode cX7_film 86 = .ok (.iadd, 1) := by decide +kernel
theorem dX7_film_87 : decode cX7_film 87 = .ok (.aload_n 0, 1) := by decide +kernel
theorem dX7_film_88 : decode cX7_film 88 = .ok (.iload 8, 2) := by decide +kernel
theorem dX7_film_90 : decode cX7_film 90 = .ok (.iload 4, 2) := by decide +kernel
theorem dX7_film_92 : decode cX7_film 92 = .ok (.invokevirtual 188, 3) := by decide +kernel
theorem dX7_film_95 : decode cX7_film 95 = .ok (.i2l, 1) := by decide +kernel
theorem dX7_film_96 : decode cX7_film 96 = .ok (.lastore, 1) := by decide +kernel
theorem dX7_film_97 : decode cX7_film 97 = .ok (.iinc 8 1, 3) := by decide +kernel
theorem dX7_film_100 : decode cX7_film 100 = .ok (.goto (-33), 3) := by decide +kernel
theorem dX7_film_103 : decode cX7_film 103 = .ok (.lload 6, 2) := by decide +kernel
theorem dX7_film_105 : decode cX7_film 105 = .ok (.ldc2_w 220, 3) := by decide +kernel
theorem dX7_film_108 : decode cX7_film 108 = .ok (.lcmp, 1) := by decide +kernel
theorem dX7_film_109 : decode cX7_film 109 = .ok (.ifCond .le 9, 3) := by decide +kernel
theorem dX7_film_112 : decode cX7_film 112 = .ok (.ldc2_w 220, 3) := by decide +kernel
theorem dX7_film_115 : decode cX7_film 115 = .ok (.goto 5, 3) := by decide +kernel
theorem dX7_film_118 : decode cX7_film 118 = .ok (.lload 6, 2) := by decide +kernel
theorem dX7_film_120 : decode cX7_film 120 = .ok (.l2i, 1) := by decide +kernel
theorem dX7_film_121 : decode cX7_film 121 = .ok (.ireturn, 1) := by decide +kernel
