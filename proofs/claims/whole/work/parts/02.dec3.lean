theorem dX12_isNextRow_12 : decode cX12_isNextRow 12 = .ok (.aload_n 0, 1) := by decide +kernel
theorem dX12_isNextRow_13 : decode cX12_isNextRow 13 = .ok (.getfield 136, 3) := by decide +kernel
theorem dX12_isNextRow_16 : decode cX12_isNextRow 16 = .ok (.iload_n 2, 1) := by decide +kernel
theorem dX12_isNextRow_17 : decode cX12_isNextRow 17 = .ok (.iaload, 1) := by decide +kernel
theorem dX12_isNextRow_18 : decode cX12_isNextRow 18 = .ok (.aload_n 0, 1) := by decide +kernel
theorem dX12_isNextRow_19 : decode cX12_isNextRow 19 = .ok (.getfield 31, 3) := by decide +kernel
theorem dX12_isNextRow_22 : decode cX12_isNextRow 22 = .ok (.aload_n 0, 1) := by decide +kernel
theorem dX12_isNextRow_23 : decode cX12_isNextRow 23 = .ok (.getfield 13, 3) := by decide +kernel
theorem dX12_isNextRow_26 : decode cX12_isNextRow 26 = .ok (.iload_n 1, 1) := by decide +kernel
theorem dX12_isNextRow_27 : decode cX12_isNextRow 27 = .ok (.iaload, 1) := by decide +kernel
theorem dX12_isNextRow_28 : decode cX12_isNextRow 28 = .ok (.iload_n 2, 1) := by decide +kernel
theorem dX12_isNextRow_29 : decode cX12_isNextRow 29 = .ok (.iadd, 1) := by decide +kernel
theorem dX12_isNextRow_30 : decode cX12_isNextRow 30 = .ok (.iaload, 1) := by decide +kernel
theorem dX12_isNextRow_31 : decode cX12_isNextRow 31 = .ok (.if_icmp .ge 15, 3) := by decide +kernel
theorem dX12_isNextRow_34 : decode cX12_isNextRow 34 = .ok (.aload_n 0, 1) := by decide +kernel
theorem dX12_isNextRow_35 : decode cX12_isNextRow 35 = .ok (.getfield 136, 3) := by decide +kernel
theorem dX12_isNextRow_38 : decode cX12_isNextRow 38 = .ok (.iload_n 2, 1) := by decide +kernel
theorem dX12_isNextRow_39 : decode cX12_isNextRow 39 = .ok (.dup2, 1) := by decide +kernel
theorem dX12_isNextRow_40 : decode cX12_isNextRow 40 = .ok (.iaload, 1) := by decide +kernel
theorem dX12_isNextRow_41 : decode cX12_isNextRow 41 = .ok (.iconst 1, 1) := by decide +kernel
theorem dX12_isNextRow_42 : decode cX12_isNextRow 42 = .ok (.iadd, 1) := by decide +kernel
theorem dX12_isNextRow_43 : decode cX12_isNextRow 43 = .ok (.iastore, 1) := by decide +kernel
theorem dX12_isNextRow_44 : decode cX12_isNextRow 44 = .ok (.iconst 1, 1) := by decide +kernel
theorem dX12_isNextRow_45 : decode cX12_isNextRow 45 = .ok (.ireturn, 1) := by decide +kernel
theorem dX12_isNextRow_46 : decode cX12_isNextRow 46 = .ok (.aload_n 0, 1) := by decide +kernel
theorem dX12_isNextRow_47 : decode cX12_isNextRow 47 = .ok (.getfield 136, 3) := by decide +kernel
theorem dX12_isNextRow_50 : decode cX12_isNextRow 50 = .ok (.iload_n 2, 1) := by decide +kernel
theorem dX12_isNextRow_51 : decode cX12_isNextRow 51 = .ok (.iconst 0, 1) := by decide +kernel
theorem dX12_isNextRow_52 : decode cX12_isNextRow 52 = .ok (.iastore, 1) := by decide +kernel
theorem dX12_isNextRow_53 : decode cX12_isNextRow 53 = .ok (.iinc 2 (-1), 3) := by decide +kernel
theorem dX12_isNextRow_56 : decode cX12_isNextRow 56 = .ok (.goto (-48), 3) := by decide +kernel
theorem dX12_isNextRow_59 : decode cX12_isNextRow 59 = .ok (.iconst 0, 1) := by decide +kernel
theorem dX12_isNextRow_60 : decode cX12_isNextRow 60 = .ok (.ireturn, 1) := by decide +kernel
theorem dX12_isTheirsScraped_0 : decode cX12_isTheirsScraped 0 = .ok (.iconst 0, 1) := by decide +kernel
theorem dX12_isTheirsScraped_1 : decode cX12_isTheirsScraped 1 = .ok (.istore_n 3, 1) := by decide +kernel
theorem dX12_isTheirsScraped_2 : decode cX12_isTheirsScraped 2 = .ok (.iload_n 3, 1) := by decide +kernel
theorem dX12_isTheirsScraped_3 : decode cX12_isTheirsScraped 3 = .ok (.iconst 4, 1) := by decide +kernel
theorem dX12_isTheirsScraped_4 : decode cX12_isTheirsScraped 4 = .ok (.if_icmp .ge 16, 3) := by decide +kernel
theorem dX12_isTheirsScraped_7 : decode cX12_isTheirsScraped 7 = .ok (.aload_n 0, 1) := by decide +kernel
theorem dX12_isTheirsScraped_8 : decode cX12_isTheirsScraped 8 = .ok (.getfield 124, 3) := by decide +kernel
theorem dX12_isTheirsScraped_11 : decode cX12_isTheirsScraped 11 = .ok (.iload_n 3, 1) := by decide +kernel
theorem dX12_isTheirsScraped_12 : decode cX12_isTheirsScraped 12 = .ok (.iconst 0, 1) := by decide +kernel
theorem dX12_isTheirsScraped_13 : decode cX12_isTheirsScraped 13 = .ok (.iastore, 1) := by decide +kernel
theorem dX12_isTheirsScraped_14 : decode cX12_isTheirsScraped 14 = .ok (.iinc 3 1, 3) := by decide +kernel
theorem dX12_isTheirsScraped_17 : decode cX12_isTheirsScraped 17 = .ok (.goto (-15), 3) := by decide +kernel
theorem dX12_isTheirsScraped_20 : decode cX12_isTheirsScraped 20 = .ok (.iconst 0, 1) := by decide +kernel
theorem dX12_isTheirsScraped_21 : decode cX12_isTheirsScraped 21 = .ok (.istore_n 3, 1) := by decide +kernel
theorem dX12_isTheirsScraped_22 : decode cX12_isTheirsScraped 22 = .ok (.iload_n 3, 1) := by decide +kernel
theorem dX12_isTheirsScraped_23 : decode cX12_isTheirsScraped 23 = .ok (.aload_n 0, 1) := by decide +kernel
theorem dX12_isTheirsScraped_24 : decode cX12_isTheirsScraped 24 = .ok (.iload_n 2, 1) := by decide +kernel
theorem dX12_isTheirsScraped_25 : decode cX12_isTheirsScraped 25 = .ok (.invokevirtual 396, 3) := by decide +kernel
theorem dX12_isTheirsScraped_28 : decode cX12_isTheirsScraped 28 = .ok (.if_icmp .ge 67, 3) := by decide +kernel
theorem dX12_isTheirsScraped_31 : decode cX12_isTheirsScraped 31 = .ok (.aload_n 0, 1) := by decide +kernel
theorem dX12_isTheirsScraped_32 : decode cX12_isTheirsScraped 32 = .ok (.aload_n 0, 1) := by decide +kernel
theorem dX12_isTheirsScraped_33 : decode cX12_isTheirsScraped 33 = .ok (.getfield 13, 3) := by decide +kernel
theorem dX12_isTheirsScraped_36 : decode cX12_isTheirsScraped 36 = .ok (.iload_n 2, 1) := by decide +kernel
theorem dX12_isTheirsScraped_37 : decode cX12_isTheirsScraped 37 = .ok (.iaload, 1) := by decide +kernel
theorem dX12_isTheirsScraped_38 : decode cX12_isTheirsScraped 38 = .ok (.iload_n 3, 1) := by decide +kernel
theorem dX12_isTheirsScraped_39 : decode cX12_isTheirsScraped 39 = .ok (.iadd, 1) := by decide +kernel
theorem dX12_isTheirsScraped_40 : decode cX12_isTheirsScraped 40 = .ok (.aload_n 0, 1) := by decide +kernel
theorem dX12_isTheirsScraped_41 : decode cX12_isTheirsScraped 41 = .ok (.getfield 31, 3) := by decide +kernel
theorem dX12_isTheirsScraped_44 : decode cX12_isTheirsScraped 44 = .ok (.aload_n 0, 1) := by decide +kernel
theorem dX12_isTheirsScraped_45 : decode cX12_isTheirsScraped 45 = .ok (.getfield 13, 3) := by decide +kernel
theorem dX12_isTheirsScraped_48 : decode cX12_isTheirsScraped 48 = .ok (.iload_n 2, 1) := by decide +kernel
theorem dX12_isTheirsScraped_49 : decode cX12_isTheirsScraped 49 = .ok (.iaload, 1) := by decide +kernel
theorem dX12_isTheirsScraped_50 : decode cX12_isTheirsScraped 50 = .ok (.iload_n 3, 1) := by decide +kernel
theorem dX12_isTheirsScraped_51 : decode cX12_isTheirsScraped 51 = .ok (.iadd, 1) := by decide +kernel
theorem dX12_isTheirsScraped_52 : decode cX12_isTheirsScraped 52 = .ok (.iaload, 1) := by decide +kernel
theorem dX12_isTheirsScraped_53 : decode cX12_isTheirsScraped 53 = .ok (.aload_n 0, 1) := by decide +kernel
theorem dX12_isTheirsScraped_54 : decode cX12_isTheirsScraped 54 = .ok (.getfield 136, 3) := by decide +kernel
theorem dX12_isTheirsScraped_57 : decode cX12_isTheirsScraped 57 = .ok (.iload_n 3, 1) := by decide +kernel
theorem dX12_isTheirsScraped_58 : decode cX12_isTheirsScraped 58 = .ok (.iaload, 1) := by decide +kernel
theorem dX12_isTheirsScraped_59 : decode cX12_isTheirsScraped 59 = .ok (.isub, 1) := by decide +kernel
theorem dX12_isTheirsScraped_60 : decode cX12_isTheirsScraped 60 = .ok (.aload_n 0, 1) := by decide +kernel
theorem dX12_isTheirsScraped_61 : decode cX12_isTheirsScraped 61 = .ok (.getfield 9, 3) := by decide +kernel
theorem dX12_isTheirsScraped_64 : decode cX12_isTheirsScraped 64 = .ok (.bipush 9, 2) := by decide +kernel
theorem dX12_isTheirsScraped_66 : decode cX12_isTheirsScraped 66 = .ok (.iaload, 1) := by decide +kernel
theorem dX12_isTheirsScraped_67 : decode cX12_isTheirsScraped 67 = .ok (.invokevirtual 388, 3) := by decide +kernel
theorem dX12_isTheirsScraped_70 : decode cX12_isTheirsScraped 70 = .ok (.istore 4, 2) := by decide +kernel
theorem dX12_isTheirsScraped_72 : decode cX12_isTheirsScraped 72 = .ok (.iload 4, 2) := by decide +kernel
theorem dX12_isTheirsScraped_74 : decode cX12_isTheirsScraped 74 = .ok (.iconst (-1), 1) := by decide +kernel
theorem dX12_isTheirsScraped_75 : decode cX12_isTheirsScraped 75 = .ok (.if_icmp .eq 14, 3) := by decide +kernel
theorem dX12_isTheirsScraped_78 : decode cX12_isTheirsScraped 78 = .ok (.aload_n 0, 1) := by decide +kernel
theorem dX12_isTheirsScraped_79 : decode cX12_isTheirsScraped 79 = .ok (.getfield 124, 3) := by decide +kernel
theorem dX12_isTheirsScraped_82 : decode cX12_isTheirsScraped 82 = .ok (.iload 4, 2) := by decide +kernel
theorem dX12_isTheirsScraped_84 : decode cX12_isTheirsScraped 84 = .ok (.dup2, 1) := by decide +kernel
theorem dX12_isTheirsScraped_85 : decode cX12_isTheirsScraped 85 = .ok (.iaload, 1) := by decide +kernel
theorem dX12_isTheirsScraped_86 : decode cX12_isTheirsScraped 86 = .ok (.iconst 1, 1) := by decide +kernel
theorem dX12_isTheirsScraped_87 : decode cX12_isTheirsScraped 87 = .ok (.iadd, 1) := by decide +kernel
theorem dX12_isTheirsScraped_88 : decode cX12_isTheirsScraped 88 = .ok (.iastore, 1) := by decide +kernel
theorem dX12_isTheirsScraped_89 : decode cX12_isTheirsScraped 89 = .ok (.iinc 3 1, 3) := by decide +kernel
theorem dX12_isTheirsScraped_92 : decode cX12_isTheirsScraped 92 = .ok (.goto (-70), 3) := by decide +kernel
theorem dX12_isTheirsScraped_95 : decode cX12_isTheirsScraped 95 = .ok (.aload_n 0, 1) := by decide +kernel
theorem dX12_isTheirsScraped_96 : decode cX12_isTheirsScraped 96 = .ok (.aload_n 0, 1) := by decide +kernel
theorem dX12_isTheirsScraped_97 : decode cX12_isTheirsScraped 97 = .ok (.iload_n 2, 1) := by decide +kernel
theorem dX12_isTheirsScraped_98 : decode cX12_isTheirsScraped 98 = .ok (.invokevirtual 396, 3) := by decide +kernel
theorem dX12_isTheirsScraped_101 : decode cX12_isTheirsScraped 101 = .ok (.aload_n 0, 1) := by decide +kernel
theorem dX12_isTheirsScraped_102 : decode cX12_isTheirsScraped 102 = .ok (.getfield 9, 3) := by decide +kernel
theorem dX12_isTheirsScraped_105 : decode cX12_isTheirsScraped 105 = .ok (.iconst 1, 1) := by decide +kernel
theorem dX12_isTheirsScraped_106 : decode cX12_isTheirsScraped 106 = .ok (.iaload, 1) := by decide +kernel
theorem dX12_isTheirsScraped_107 : decode cX12_isTheirsScraped 107 = .ok (.invokevirtual 399, 3) := by decide +kernel
theorem dX12_isTheirsScraped_110 : decode cX12_isTheirsScraped 110 = .ok (.iload_n 1, 1) := by decide +kernel
theorem dX12_isTheirsScraped_111 : decode cX12_isTheirsScraped 111 = .ok (.if_icmp .ne 7, 3) := by decide +kernel
theorem dX12_isTheirsScraped_114 : decode cX12_isTheirsScraped 114 = .ok (.iconst 1, 1) := by decide +kernel
theorem dX12_isTheirsScraped_115 : decode cX12_isTheirsScraped 115 = .ok (.goto 4, 3) := by decide +kernel
theorem dX12_isTheirsScraped_118 : decode cX12_isTheirsScraped 118 = .ok (.iconst 0, 1) := by decide +kernel
theorem dX12_isTheirsScraped_119 : decode cX12_isTheirsScraped 119 = .ok (.ireturn, 1) := by decide +kernel
theorem dX12_allScraped_0 : decode cX12_allScraped 0 = .ok (.iconst 0, 1) := by decide +kernel
theorem dX12_allScraped_1 : decode cX12_allScraped 1 = .ok (.istore_n 1, 1) := by decide +kernel
theorem dX12_allScraped_2 : decode cX12_allScraped 2 = .ok (.iconst 0, 1) := by decide +kernel
theorem dX12_allScraped_3 : decode cX12_allScraped 3 = .ok (.istore_n 2, 1) := by decide +kernel
theorem dX12_allScraped_4 : decode cX12_allScraped 4 = .ok (.iload_n 2, 1) := by decide +kernel
theorem dX12_allScraped_5 : decode cX12_allScraped 5 = .ok (.bipush 6, 2) := by decide +kernel
theorem dX12_allScraped_7 : decode cX12_allScraped 7 = .ok (.if_icmp .ge 18, 3) := by decide +kernel
theorem dX12_allScraped_10 : decode cX12_allScraped 10 = .ok (.iload_n 1, 1) := by decide +kernel
theorem dX12_allScraped_11 : decode cX12_allScraped 11 = .ok (.aload_n 0, 1) := by decide +kernel
theorem dX12_allScraped_12 : decode cX12_allScraped 12 = .ok (.getfield 136, 3) := by decide +kernel
theorem dX12_allScraped_15 : decode cX12_allScraped 15 = .ok (.iload_n 2, 1) := by decide +kernel
theorem dX12_allScraped_16 : decode cX12_allScraped 16 = .ok (.iaload, 1) := by decide +kernel
theorem dX12_allScraped_17 : decode cX12_allScraped 17 = .ok (.iadd, 1) := by decide +kernel
theorem dX12_allScraped_18 : decode cX12_allScraped 18 = .ok (.istore_n 1, 1) := by decide +kernel
theorem dX12_allScraped_19 : decode cX12_allScraped 19 = .ok (.iinc 2 1, 3) := by decide +kernel
theorem dX12_allScraped_22 : decode cX12_allScraped 22 = .ok (.goto (-18), 3) := by decide +kernel
theorem dX12_allScraped_25 : decode cX12_allScraped 25 = .ok (.iload_n 1, 1) := by decide +kernel
theorem dX12_allScraped_26 : decode cX12_allScraped 26 = .ok (.ireturn, 1) := by decide +kernel
theorem dX12_fewest_0 : decode cX12_fewest 0 = .ok (.aload_n 0, 1) := by decide +kernel
theorem dX12_fewest_1 : decode cX12_fewest 1 = .ok (.iload_n 1, 1) := by decide +kernel
theorem dX12_fewest_2 : decode cX12_fewest 2 = .ok (.invokevirtual 423, 3) := by decide +kernel
theorem dX12_fewest_5 : decode cX12_fewest 5 = .ok (.ifCond .eq 23, 3) := by decide +kernel
theorem dX12_fewest_8 : decode cX12_fewest 8 = .ok (.aload_n 0, 1) := by decide +kernel
theorem dX12_fewest_9 : decode cX12_fewest 9 = .ok (.iload_n 2, 1) := by decide +kernel
theorem dX12_fewest_10 : decode cX12_fewest 10 = .ok (.invokevirtual 417, 3) := by decide +kernel
theorem dX12_fewest_13 : decode cX12_fewest 13 = .ok (.ifCond .eq 15, 3) := by decide +kernel
theorem dX12_fewest_16 : decode cX12_fewest 16 = .ok (.iload_n 3, 1) := by decide +kernel
theorem dX12_fewest_17 : decode cX12_fewest 17 = .ok (.i2l, 1) := by decide +kernel
theorem dX12_fewest_18 : decode cX12_fewest 18 = .ok (.lconst 0, 1) := by decide +kernel
theorem dX12_fewest_19 : decode cX12_fewest 19 = .ok (.ldc2_w 513, 3) := by decide +kernel
theorem dX12_fewest_22 : decode cX12_fewest 22 = .ok (.invokestatic 164, 3) := by decide +kernel
theorem dX12_fewest_25 : decode cX12_fewest 25 = .ok (.ifCond .ne 5, 3) := by decide +kernel
theorem dX12_fewest_28 : decode cX12_fewest 28 = .ok (.iconst (-1), 1) := by decide +kernel
theorem dX12_fewest_29 : decode cX12_fewest 29 = .ok (.ireturn, 1) := by decide +kernel
theorem dX12_fewest_30 : decode cX12_fewest 30 = .ok (.iconst 0, 1) := by decide +kernel
theorem dX12_fewest_31 : decode cX12_fewest 31 = .ok (.istore 4, 2) := by decide +kernel
theorem dX12_fewest_33 : decode cX12_fewest 33 = .ok (.iload 4, 2) := by decide +kernel
theorem dX12_fewest_35 : decode cX12_fewest 35 = .ok (.bipush 6, 2) := by decide +kernel
theorem dX12_fewest_37 : decode cX12_fewest 37 = .ok (.if_icmp .ge 17, 3) := by decide +kernel
theorem dX12_fewest_40 : decode cX12_fewest 40 = .ok (.aload_n 0, 1) := by decide +kernel
theorem dX12_fewest_41 : decode cX12_fewest 41 = .ok (.getfield 136, 3) := by decide +kernel
theorem dX12_fewest_44 : decode cX12_fewest 44 = .ok (.iload 4, 2) := by decide +kernel
theorem dX12_fewest_46 : decode cX12_fewest 46 = .ok (.iconst 0, 1) := by decide +kernel
theorem dX12_fewest_47 : decode cX12_fewest 47 = .ok (.iastore, 1) := by decide +kernel
theorem dX12_fewest_48 : decode cX12_fewest 48 = .ok (.iinc 4 1, 3) := by decide +kernel
theorem dX12_fewest_51 : decode cX12_fewest 51 = .ok (.goto (-18), 3) := by decide +kernel
theorem dX12_fewest_54 : decode cX12_fewest 54 = .ok (.bipush (-2), 2) := by decide +kernel
theorem dX12_fewest_56 : decode cX12_fewest 56 = .ok (.istore 4, 2) := by decide +kernel
theorem dX12_fewest_58 : decode cX12_fewest 58 = .ok (.aload_n 0, 1) := by decide +kernel
theorem dX12_fewest_59 : decode cX12_fewest 59 = .ok (.iload_n 2, 1) := by decide +kernel
theorem dX12_fewest_60 : decode cX12_fewest 60 = .ok (.invokevirtual 336, 3) := by decide +kernel
theorem dX12_fewest_63 : decode cX12_fewest 63 = .ok (.ifCond .ne 7, 3) := by decide +kernel
theorem dX12_fewest_66 : decode cX12_fewest 66 = .ok (.iconst 1, 1) := by decide +kernel
theorem dX12_fewest_67 : decode cX12_fewest 67 = .ok (.goto 4, 3) := by decide +kernel
theorem dX12_fewest_70 : decode cX12_fewest 70 = .ok (.iconst 0, 1) := by decide +kernel
theorem dX12_fewest_71 : decode cX12_fewest 71 = .ok (.istore 5, 2) := by decide +kernel
theorem dX12_fewest_73 : decode cX12_fewest 73 = .ok (.iload 5, 2) := by decide +kernel
theorem dX12_fewest_75 : decode cX12_fewest 75 = .ok (.ifCond .eq 57, 3) := by decide +kernel
theorem dX12_fewest_78 : decode cX12_fewest 78 = .ok (.aload_n 0, 1) := by decide +kernel
theorem dX12_fewest_79 : decode cX12_fewest 79 = .ok (.invokevirtual 515, 3) := by decide +kernel
theorem dX12_fewest_82 : decode cX12_fewest 82 = .ok (.istore 6, 2) := by decide +kernel
theorem dX12_fewest_84 : decode cX12_fewest 84 = .ok (.iload 4, 2) := by decide +kernel
theorem dX12_fewest_86 : decode cX12_fewest 86 = .ok (.bipush (-2), 2) := by decide +kernel
theorem dX12_fewest_88 : decode cX12_fewest 88 = .ok (.if_icmp .eq 10, 3) := by decide +kernel
theorem dX12_fewest_91 : decode cX12_fewest 91 = .ok (.iload 6, 2) := by decide +kernel
theorem dX12_fewest_93 : decode cX12_fewest 93 = .ok (.iload 4, 2) := by decide +kernel
theorem dX12_fewest_95 : decode cX12_fewest 95 = .ok (.if_icmp .ge 27, 3) := by decide +kernel
theorem dX12_fewest_98 : decode cX12_fewest 98 = .ok (.aload_n 0, 1) := by decide +kernel
theorem dX12_fewest_99 : decode cX12_fewest 99 = .ok (.iload_n 1, 1) := by decide +kernel
theorem dX12_fewest_100 : decode cX12_fewest 100 = .ok (.iload_n 2, 1) := by decide +kernel
theorem dX12_fewest_101 : decode cX12_fewest 101 = .ok (.invokevirtual 518, 3) := by decide +kernel
theorem dX12_fewest_104 : decode cX12_fewest 104 = .ok (.ifCond .eq 18, 3) := by decide +kernel
theorem dX12_fewest_107 : decode cX12_fewest 107 = .ok (.iload 6, 2) := by decide +kernel
theorem dX12_fewest_109 : decode cX12_fewest 109 = .ok (.istore 4, 2) := by decide +kernel
theorem dX12_fewest_111 : decode cX12_fewest 111 = .ok (.aload_n 0, 1) := by decide +kernel
theorem dX12_fewest_112 : decode cX12_fewest 112 = .ok (.getfield 136, 3) := by decide +kernel
theorem dX12_fewest_115 : decode cX12_fewest 115 = .ok (.aload_n 0, 1) := by decide +kernel
theorem dX12_fewest_116 : decode cX12_fewest 116 = .ok (.getfield 139, 3) := by decide +kernel
theorem dX12_fewest_119 : decode cX12_fewest 119 = .ok (.invokestatic 332, 3) := by decide +kernel
theorem dX12_fewest_122 : decode cX12_fewest 122 = .ok (.aload_n 0, 1) := by decide +kernel
theorem dX12_fewest_123 : decode cX12_fewest 123 = .ok (.iload_n 2, 1) := by decide +kernel
theorem dX12_fewest_124 : decode cX12_fewest 124 = .ok (.invokevirtual 521, 3) := by decide +kernel
theorem dX12_fewest_127 : decode cX12_fewest 127 = .ok (.istore 5, 2) := by decide +kernel
theorem dX12_fewest_129 : decode cX12_fewest 129 = .ok (.goto (-56), 3) := by decide +kernel
theorem dX12_fewest_132 : decode cX12_fewest 132 = .ok (.iload 4, 2) := by decide +kernel
theorem dX12_fewest_134 : decode cX12_fewest 134 = .ok (.bipush (-2), 2) := by decide +kernel
theorem dX12_fewest_136 : decode cX12_fewest 136 = .ok (.if_icmp .eq 7, 3) := by decide +kernel
theorem dX12_fewest_139 : decode cX12_fewest 139 = .ok (.iload_n 3, 1) := by decide +kernel
theorem dX12_fewest_140 : decode cX12_fewest 140 = .ok (.ifCond .ne 6, 3) := by decide +kernel
theorem dX12_fewest_143 : decode cX12_fewest 143 = .ok (.iload 4, 2) := by decide +kernel
theorem dX12_fewest_145 : decode cX12_fewest 145 = .ok (.ireturn, 1) := by decide +kernel
theorem dX12_fewest_146 : decode cX12_fewest 146 = .ok (.iload_n 3, 1) := by decide +kernel
theorem dX12_fewest_147 : decode cX12_fewest 147 = .ok (.aload_n 0, 1) := by decide +kernel
theorem dX12_fewest_148 : decode cX12_fewest 148 = .ok (.iload_n 2, 1) := by decide +kernel
theorem dX12_fewest_149 : decode cX12_fewest 149 = .ok (.invokevirtual 396, 3) := by decide +kernel
theorem dX12_fewest_152 : decode cX12_fewest 152 = .ok (.if_icmp .gt 14, 3) := by decide +kernel
theorem dX12_fewest_155 : decode cX12_fewest 155 = .ok (.aload_n 0, 1) := by decide +kernel
theorem dX12_fewest_156 : decode cX12_fewest 156 = .ok (.getfield 139, 3) := by decide +kernel
theorem dX12_fewest_159 : decode cX12_fewest 159 = .ok (.iload_n 3, 1) := by decide +kernel
theorem dX12_fewest_160 : decode cX12_fewest 160 = .ok (.iconst 1, 1) := by decide +kernel
theorem dX12_fewest_161 : decode cX12_fewest 161 = .ok (.isub, 1) := by decide +kernel
theorem dX12_fewest_162 : decode cX12_fewest 162 = .ok (.iaload, 1) := by decide +kernel
theorem dX12_fewest_163 : decode cX12_fewest 163 = .ok (.goto 5, 3) := by decide +kernel
theorem dX12_fewest_166 : decode cX12_fewest 166 = .ok (.bipush (-2), 2) := by decide +kernel
theorem dX12_fewest_168 : decode cX12_fewest 168 = .ok (.ireturn, 1) := by decide +kernel
theorem dX12_when_0 : decode cX12_when 0 = .ok (.aload_n 0, 1) := by decide +kernel
theorem dX12_when_1 : decode cX12_when 1 = .ok (.invokevirtual 429, 3) := by decide +kernel
theorem dX12_when_4 : decode cX12_when 4 = .ok (.ifCond .ne 5, 3) := by decide +kernel
theorem dX12_when_7 : decode cX12_when 7 = .ok (.iconst (-1), 1) := by decide +kernel
theorem dX12_when_8 : decode cX12_when 8 = .ok (.ireturn, 1) := by decide +kernel
theorem dX12_when_9 : decode cX12_when 9 = .ok (.aload_n 0, 1) := by decide +kernel
theorem dX12_when_10 : decode cX12_when 10 = .ok (.getfield 9, 3) := by decide +kernel
theorem dX12_when_13 : decode cX12_when 13 = .ok (.bipush 9, 2) := by decide +kernel
theorem dX12_when_15 : decode cX12_when 15 = .ok (.iaload, 1) := by decide +kernel
theorem dX12_when_16 : decode cX12_when 16 = .ok (.istore_n 1, 1) := by decide +kernel
theorem dX12_when_17 : decode cX12_when 17 = .ok (.iload_n 1, 1) := by decide +kernel
theorem dX12_when_18 : decode cX12_when 18 = .ok (.aload_n 0, 1) := by decide +kernel
theorem dX12_when_19 : decode cX12_when 19 = .ok (.getfield 9, 3) := by decide +kernel
theorem dX12_when_22 : decode cX12_when 22 = .ok (.bipush 9, 2) := by decide +kernel
theorem dX12_when_24 : decode cX12_when 24 = .ok (.iaload, 1) := by decide +kernel
theorem dX12_when_25 : decode cX12_when 25 = .ok (.bipush 60, 2) := by decide +kernel
theorem dX12_when_27 : decode cX12_when 27 = .ok (.iadd, 1) := by decide +kernel
theorem dX12_when_28 : decode cX12_when 28 = .ok (.if_icmp .ge 55, 3) := by decide +kernel
theorem dX12_when_31 : decode cX12_when 31 = .ok (.iconst 1, 1) := by decide +kernel
theorem dX12_when_32 : decode cX12_when 32 = .ok (.istore_n 2, 1) := by decide +kernel
theorem dX12_when_33 : decode cX12_when 33 = .ok (.iload_n 1, 1) := by decide +kernel
theorem dX12_when_34 : decode cX12_when 34 = .ok (.istore_n 3, 1) := by decide +kernel
theorem dX12_when_35 : decode cX12_when 35 = .ok (.iload_n 3, 1) := by decide +kernel
theorem dX12_when_36 : decode cX12_when 36 = .ok (.iload_n 1, 1) := by decide +kernel
theorem dX12_when_37 : decode cX12_when 37 = .ok (.aload_n 0, 1) := by decide +kernel
theorem dX12_when_38 : decode cX12_when 38 = .ok (.getfield 9, 3) := by decide +kernel
theorem dX12_when_41 : decode cX12_when 41 = .ok (.iconst 0, 1) := by decide +kernel
theorem dX12_when_42 : decode cX12_when 42 = .ok (.iaload, 1) := by decide +kernel
theorem dX12_when_43 : decode cX12_when 43 = .ok (.iadd, 1) := by decide +kernel
theorem dX12_when_44 : decode cX12_when 44 = .ok (.if_icmp .ge 27, 3) := by decide +kernel
theorem dX12_when_47 : decode cX12_when 47 = .ok (.iload_n 2, 1) := by decide +kernel
theorem dX12_when_48 : decode cX12_when 48 = .ok (.ifCond .eq 15, 3) := by decide +kernel
theorem dX12_when_51 : decode cX12_when 51 = .ok (.aload_n 0, 1) := by decide +kernel
theorem dX12_when_52 : decode cX12_when 52 = .ok (.iload_n 3, 1) := by decide +kernel
theorem dX12_when_53 : decode cX12_when 53 = .ok (.invokevirtual 432, 3) := by decide +kernel
theorem dX12_when_56 : decode cX12_when 56 = .ok (.ifCond .ne 7, 3) := by decide +kernel
theorem dX12_when_59 : decode cX12_when 59 = .ok (.iconst 1, 1) := by decide +kernel
theorem dX12_when_60 : decode cX12_when 60 = .ok (.goto 4, 3) := by decide +kernel
theorem dX12_when_63 : decode cX12_when 63 = .ok (.iconst 0, 1) := by decide +kernel
theorem dX12_when_64 : decode cX12_when 64 = .ok (.istore_n 2, 1) := by decide +kernel
theorem dX12_when_65 : decode cX12_when 65 = .ok (.iinc 3 1, 3) := by decide +kernel
theorem dX12_when_68 : decode cX12_when 68 = .ok (.goto (-33), 3) := by decide +kernel
theorem dX12_when_71 : decode cX12_when 71 = .ok (.iload_n 2, 1) := by decide +kernel
theorem dX12_when_72 : decode cX12_when 72 = .ok (.ifCond .eq 5, 3) := by decide +kernel
theorem dX12_when_75 : decode cX12_when 75 = .ok (.iload_n 1, 1) := by decide +kernel
theorem dX12_when_76 : decode cX12_when 76 = .ok (.ireturn, 1) := by decide +kernel
theorem dX12_when_77 : decode cX12_when 77 = .ok (.iinc 1 1, 3) := by decide +kernel
theorem dX12_when_80 : decode cX12_when 80 = .ok (.goto (-63), 3) := by decide +kernel
theorem dX12_when_83 : decode cX12_when 83 = .ok (.bipush (-2), 2) := by decide +kernel
theorem dX12_when_85 : decode cX12_when 85 = .ok (.ireturn, 1) := by decide +kernel
theorem dX12_gameEnd_0 : decode cX12_gameEnd 0 = .ok (.iconst 0, 1) := by decide +kernel
theorem dX12_gameEnd_1 : decode cX12_gameEnd 1 = .ok (.istore 5, 2) := by decide +kernel
theorem dX12_gameEnd_3 : decode cX12_gameEnd 3 = .ok (.iload 5, 2) := by decide +kernel
theorem dX12_gameEnd_5 : decode cX12_gameEnd 5 = .ok (.iload 4, 2) := by decide +kernel
theorem dX12_gameEnd_7 : decode cX12_gameEnd 7 = .ok (.if_icmp .ge 54, 3) := by decide +kernel
theorem dX12_gameEnd_10 : decode cX12_gameEnd 10 = .ok (.aload_n 0, 1) := by decide +kernel
theorem dX12_gameEnd_11 : decode cX12_gameEnd 11 = .ok (.getfield 142, 3) := by decide +kernel
theorem dX12_gameEnd_14 : decode cX12_gameEnd 14 = .ok (.iload 5, 2) := by decide +kernel
theorem dX12_gameEnd_16 : decode cX12_gameEnd 16 = .ok (.iaload, 1) := by decide +kernel
theorem dX12_gameEnd_17 : decode cX12_gameEnd 17 = .ok (.iconst (-1), 1) := by decide +kernel
theorem dX12_gameEnd_18 : decode cX12_gameEnd 18 = .ok (.if_icmp .eq 33, 3) := by decide +kernel
theorem dX12_gameEnd_21 : decode cX12_gameEnd 21 = .ok (.aload_n 0, 1) := by decide +kernel
theorem dX12_gameEnd_22 : decode cX12_gameEnd 22 = .ok (.aload_n 0, 1) := by decide +kernel
theorem dX12_gameEnd_23 : decode cX12_gameEnd 23 = .ok (.getfield 13, 3) := by decide +kernel
theorem dX12_gameEnd_26 : decode cX12_gameEnd 26 = .ok (.iload_n 3, 1) := by decide +kernel
theorem dX12_gameEnd_27 : decode cX12_gameEnd 27 = .ok (.iaload, 1) := by decide +kernel
theorem dX12_gameEnd_28 : decode cX12_gameEnd 28 = .ok (.aload_n 0, 1) := by decide +kernel
theorem dX12_gameEnd_29 : decode cX12_gameEnd 29 = .ok (.getfield 142, 3) := by decide +kernel
theorem dX12_gameEnd_32 : decode cX12_gameEnd 32 = .ok (.iload 5, 2) := by decide +kernel
theorem dX12_gameEnd_34 : decode cX12_gameEnd 34 = .ok (.iaload, 1) := by decide +kernel
theorem dX12_gameEnd_35 : decode cX12_gameEnd 35 = .ok (.iadd, 1) := by decide +kernel
theorem dX12_gameEnd_36 : decode cX12_gameEnd 36 = .ok (.iload 5, 2) := by decide +kernel
theorem dX12_gameEnd_38 : decode cX12_gameEnd 38 = .ok (.iconst 2, 1) := by decide +kernel
theorem dX12_gameEnd_39 : decode cX12_gameEnd 39 = .ok (.irem, 1) := by decide +kernel
theorem dX12_gameEnd_40 : decode cX12_gameEnd 40 = .ok (.ifCond .ne 7, 3) := by decide +kernel
theorem dX12_gameEnd_43 : decode cX12_gameEnd 43 = .ok (.iload_n 1, 1) := by decide +kernel
theorem dX12_gameEnd_44 : decode cX12_gameEnd 44 = .ok (.goto 4, 3) := by decide +kernel
theorem dX12_gameEnd_47 : decode cX12_gameEnd 47 = .ok (.iload_n 2, 1) := by decide +kernel
theorem dX12_gameEnd_48 : decode cX12_gameEnd 48 = .ok (.invokevirtual 448, 3) := by decide +kernel
theorem dX12_gameEnd_51 : decode cX12_gameEnd 51 = .ok (.aload_n 0, 1) := by decide +kernel
theorem dX12_gameEnd_52 : decode cX12_gameEnd 52 = .ok (.invokevirtual 457, 3) := by decide +kernel
theorem dX12_gameEnd_55 : decode cX12_gameEnd 55 = .ok (.iinc 5 1, 3) := by decide +kernel
theorem dX12_gameEnd_58 : decode cX12_gameEnd 58 = .ok (.goto (-55), 3) := by decide +kernel
theorem dX12_gameEnd_61 : decode cX12_gameEnd 61 = .ok (.aload_n 0, 1) := by decide +kernel
theorem dX12_gameEnd_62 : decode cX12_gameEnd 62 = .ok (.aload_n 0, 1) := by decide +kernel
theorem dX12_gameEnd_63 : decode cX12_gameEnd 63 = .ok (.getfield 9, 3) := by decide +kernel
theorem dX12_gameEnd_66 : decode cX12_gameEnd 66 = .ok (.iconst 0, 1) := by decide +kernel
theorem dX12_gameEnd_67 : decode cX12_gameEnd 67 = .ok (.iaload, 1) := by decide +kernel
theorem dX12_gameEnd_68 : decode cX12_gameEnd 68 = .ok (.invokevirtual 501, 3) := by decide +kernel
theorem dX12_gameEnd_71 : decode cX12_gameEnd 71 = .ok (.aload_n 0, 1) := by decide +kernel
theorem dX12_gameEnd_72 : decode cX12_gameEnd 72 = .ok (.iload_n 3, 1) := by decide +kernel
theorem dX12_gameEnd_73 : decode cX12_gameEnd 73 = .ok (.aload_n 0, 1) := by decide +kernel
theorem dX12_gameEnd_74 : decode cX12_gameEnd 74 = .ok (.getfield 9, 3) := by decide +kernel
theorem dX12_gameEnd_77 : decode cX12_gameEnd 77 = .ok (.bipush 9, 2) := by decide +kernel
theorem dX12_gameEnd_79 : decode cX12_gameEnd 79 = .ok (.iaload, 1) := by decide +kernel
theorem dX12_gameEnd_80 : decode cX12_gameEnd 80 = .ok (.iconst 0, 1) := by decide +kernel
theorem dX12_gameEnd_81 : decode cX12_gameEnd 81 = .ok (.invokevirtual 392, 3) := by decide +kernel
theorem dX12_gameEnd_84 : decode cX12_gameEnd 84 = .ok (.aload_n 0, 1) := by decide +kernel
theorem dX12_gameEnd_85 : decode cX12_gameEnd 85 = .ok (.getfield 124, 3) := by decide +kernel
theorem dX12_gameEnd_88 : decode cX12_gameEnd 88 = .ok (.iload_n 1, 1) := by decide +kernel
theorem dX12_gameEnd_89 : decode cX12_gameEnd 89 = .ok (.iaload, 1) := by decide +kernel
theorem dX12_gameEnd_90 : decode cX12_gameEnd 90 = .ok (.aload_n 0, 1) := by decide +kernel
theorem dX12_gameEnd_91 : decode cX12_gameEnd 91 = .ok (.getfield 124, 3) := by decide +kernel
theorem dX12_gameEnd_94 : decode cX12_gameEnd 94 = .ok (.iload_n 2, 1) := by decide +kernel
theorem dX12_gameEnd_95 : decode cX12_gameEnd 95 = .ok (.iaload, 1) := by decide +kernel
theorem dX12_gameEnd_96 : decode cX12_gameEnd 96 = .ok (.isub, 1) := by decide +kernel
theorem dX12_gameEnd_97 : decode cX12_gameEnd 97 = .ok (.istore 5, 2) := by decide +kernel
theorem dX12_gameEnd_99 : decode cX12_gameEnd 99 = .ok (.aload_n 0, 1) := by decide +kernel
theorem dX12_gameEnd_100 : decode cX12_gameEnd 100 = .ok (.invokevirtual 497, 3) := by decide +kernel
theorem dX12_gameEnd_103 : decode cX12_gameEnd 103 = .ok (.iload 5, 2) := by decide +kernel
theorem dX12_gameEnd_105 : decode cX12_gameEnd 105 = .ok (.ireturn, 1) := by decide +kernel
theorem dX12_takesValue_0 : decode cX12_takesValue 0 = .ok (.aload_n 0, 1) := by decide +kernel
theorem dX12_takesValue_1 : decode cX12_takesValue 1 = .ok (.getfield 145, 3) := by decide +kernel
theorem dX12_takesValue_4 : decode cX12_takesValue 4 = .ok (.iload_n 1, 1) := by decide +kernel
theorem dX12_takesValue_5 : decode cX12_takesValue 5 = .ok (.iaload, 1) := by decide +kernel
theorem dX12_takesValue_6 : decode cX12_takesValue 6 = .ok (.sipush 1000, 3) := by decide +kernel
theorem dX12_takesValue_9 : decode cX12_takesValue 9 = .ok (.if_icmp .eq 32, 3) := by decide +kernel
theorem dX12_takesValue_12 : decode cX12_takesValue 12 = .ok (.iload_n 1, 1) := by decide +kernel
theorem dX12_takesValue_13 : decode cX12_takesValue 13 = .ok (.iconst 2, 1) := by decide +kernel
theorem dX12_takesValue_14 : decode cX12_takesValue 14 = .ok (.irem, 1) := by decide +kernel
theorem dX12_takesValue_15 : decode cX12_takesValue 15 = .ok (.ifCond .ne 16, 3) := by decide +kernel
theorem dX12_takesValue_18 : decode cX12_takesValue 18 = .ok (.iload_n 2, 1) := by decide +kernel
theorem dX12_takesValue_19 : decode cX12_takesValue 19 = .ok (.aload_n 0, 1) := by decide +kernel
theorem dX12_takesValue_20 : decode cX12_takesValue 20 = .ok (.getfield 145, 3) := by decide +kernel
theorem dX12_takesValue_23 : decode cX12_takesValue 23 = .ok (.iload_n 1, 1) := by decide +kernel
theorem dX12_takesValue_24 : decode cX12_takesValue 24 = .ok (.iaload, 1) := by decide +kernel
theorem dX12_takesValue_25 : decode cX12_takesValue 25 = .ok (.if_icmp .le 20, 3) := by decide +kernel
theorem dX12_takesValue_28 : decode cX12_takesValue 28 = .ok (.goto 13, 3) := by decide +kernel
theorem dX12_takesValue_31 : decode cX12_takesValue 31 = .ok (.iload_n 2, 1) := by decide +kernel
theorem dX12_takesValue_32 : decode cX12_takesValue 32 = .ok (.aload_n 0, 1) := by decide +kernel
theorem dX12_takesValue_33 : decode cX12_takesValue 33 = .ok (.getfield 145, 3) := by decide +kernel
theorem dX12_takesValue_36 : decode cX12_takesValue 36 = .ok (.iload_n 1, 1) := by decide +kernel
theorem dX12_takesValue_37 : decode cX12_takesValue 37 = .ok (.iaload, 1) := by decide +kernel
theorem dX12_takesValue_38 : decode cX12_takesValue 38 = .ok (.if_icmp .ge 7, 3) := by decide +kernel
theorem dX12_takesValue_41 : decode cX12_takesValue 41 = .ok (.iconst 1, 1) := by decide +kernel
theorem dX12_takesValue_42 : decode cX12_takesValue 42 = .ok (.goto 4, 3) := by decide +kernel
theorem dX12_takesValue_45 : decode cX12_takesValue 45 = .ok (.iconst 0, 1) := by decide +kernel
theorem dX12_takesValue_46 : decode cX12_takesValue 46 = .ok (.istore 4, 2) := by decide +kernel
theorem dX12_takesValue_48 : decode cX12_takesValue 48 = .ok (.iload 4, 2) := by decide +kernel
theorem dX12_takesValue_50 : decode cX12_takesValue 50 = .ok (.ifCond .eq 52, 3) := by decide +kernel
theorem dX12_takesValue_53 : decode cX12_takesValue 53 = .ok (.aload_n 0, 1) := by decide +kernel
theorem dX12_takesValue_54 : decode cX12_takesValue 54 = .ok (.getfield 145, 3) := by decide +kernel
theorem dX12_takesValue_57 : decode cX12_takesValue 57 = .ok (.iload_n 1, 1) := by decide +kernel
theorem dX12_takesValue_58 : decode cX12_takesValue 58 = .ok (.iload_n 2, 1) := by decide +kernel
theorem dX12_takesValue_59 : decode cX12_takesValue 59 = .ok (.iastore, 1) := by decide +kernel
theorem dX12_takesValue_60 : decode cX12_takesValue 60 = .ok (.aload_n 0, 1) := by decide +kernel
theorem dX12_takesValue_61 : decode cX12_takesValue 61 = .ok (.iload_n 1, 1) := by decide +kernel
theorem dX12_takesValue_62 : decode cX12_takesValue 62 = .ok (.ifCond .ne 33, 3) := by decide +kernel
theorem dX12_takesValue_65 : decode cX12_takesValue 65 = .ok (.aload_n 0, 1) := by decide +kernel
theorem dX12_takesValue_66 : decode cX12_takesValue 66 = .ok (.getfield 142, 3) := by decide +kernel
theorem dX12_takesValue_69 : decode cX12_takesValue 69 = .ok (.iconst 0, 1) := by decide +kernel
theorem dX12_takesValue_70 : decode cX12_takesValue 70 = .ok (.iaload, 1) := by decide +kernel
theorem dX12_takesValue_71 : decode cX12_takesValue 71 = .ok (.iconst (-1), 1) := by decide +kernel
theorem dX12_takesValue_72 : decode cX12_takesValue 72 = .ok (.if_icmp .ne 7, 3) := by decide +kernel
theorem dX12_takesValue_75 : decode cX12_takesValue 75 = .ok (.iconst (-1), 1) := by decide +kernel
theorem dX12_takesValue_76 : decode cX12_takesValue 76 = .ok (.goto 23, 3) := by decide +kernel
theorem dX12_takesValue_79 : decode cX12_takesValue 79 = .ok (.aload_n 0, 1) := by decide +kernel
theorem dX12_takesValue_80 : decode cX12_takesValue 80 = .ok (.getfield 13, 3) := by decide +kernel
theorem dX12_takesValue_83 : decode cX12_takesValue 83 = .ok (.iload_n 3, 1) := by decide +kernel
theorem dX12_takesValue_84 : decode cX12_takesValue 84 = .ok (.iaload, 1) := by decide +kernel
theorem dX12_takesValue_85 : decode cX12_takesValue 85 = .ok (.aload_n 0, 1) := by decide +kernel
theorem dX12_takesValue_86 : decode cX12_takesValue 86 = .ok (.getfield 142, 3) := by decide +kernel
theorem dX12_takesValue_89 : decode cX12_takesValue 89 = .ok (.iconst 0, 1) := by decide +kernel
theorem dX12_takesValue_90 : decode cX12_takesValue 90 = .ok (.iaload, 1) := by decide +kernel
theorem dX12_takesValue_91 : decode cX12_takesValue 91 = .ok (.iadd, 1) := by decide +kernel
theorem dX12_takesValue_92 : decode cX12_takesValue 92 = .ok (.goto 7, 3) := by decide +kernel
theorem dX12_takesValue_95 : decode cX12_takesValue 95 = .ok (.aload_n 0, 1) := by decide +kernel
theorem dX12_takesValue_96 : decode cX12_takesValue 96 = .ok (.getfield 524, 3) := by decide +kernel
theorem dX12_takesValue_99 : decode cX12_takesValue 99 = .ok (.putfield 524, 3) := by decide +kernel
theorem dX12_takesValue_102 : decode cX12_takesValue 102 = .ok (.return_, 1) := by decide +kernel
theorem dX12_playsGame_0 : decode cX12_playsGame 0 = .ok (.aload_n 0, 1) := by decide +kernel
theorem dX12_playsGame_1 : decode cX12_playsGame 1 = .ok (.invokevirtual 491, 3) := by decide +kernel
theorem dX12_playsGame_4 : decode cX12_playsGame 4 = .ok (.iconst 0, 1) := by decide +kernel
theorem dX12_playsGame_5 : decode cX12_playsGame 5 = .ok (.istore 5, 2) := by decide +kernel
theorem dX12_playsGame_7 : decode cX12_playsGame 7 = .ok (.aload_n 0, 1) := by decide +kernel
theorem dX12_playsGame_8 : decode cX12_playsGame 8 = .ok (.getfield 142, 3) := by decide +kernel
theorem dX12_playsGame_11 : decode cX12_playsGame 11 = .ok (.iconst 0, 1) := by decide +kernel
theorem dX12_playsGame_12 : decode cX12_playsGame 12 = .ok (.bipush (-2), 2) := by decide +kernel
theorem dX12_playsGame_14 : decode cX12_playsGame 14 = .ok (.iastore, 1) := by decide +kernel
theorem dX12_playsGame_15 : decode cX12_playsGame 15 = .ok (.aload_n 0, 1) := by decide +kernel
theorem dX12_playsGame_16 : decode cX12_playsGame 16 = .ok (.getfield 145, 3) := by decide +kernel
theorem dX12_playsGame_19 : decode cX12_playsGame 19 = .ok (.iconst 0, 1) := by decide +kernel
theorem dX12_playsGame_20 : decode cX12_playsGame 20 = .ok (.sipush 1000, 3) := by decide +kernel
theorem dX12_playsGame_23 : decode cX12_playsGame 23 = .ok (.iastore, 1) := by decide +kernel
theorem dX12_playsGame_24 : decode cX12_playsGame 24 = .ok (.iload 5, 2) := by decide +kernel
theorem dX12_playsGame_26 : decode cX12_playsGame 26 = .ok (.ifCond .lt 110, 3) := by decide +kernel
theorem dX12_playsGame_29 : decode cX12_playsGame 29 = .ok (.iload 5, 2) := by decide +kernel
theorem dX12_playsGame_31 : decode cX12_playsGame 31 = .ok (.iload 4, 2) := by decide +kernel
theorem dX12_playsGame_33 : decode cX12_playsGame 33 = .ok (.if_icmp .ne 25, 3) := by decide +kernel
theorem dX12_playsGame_36 : decode cX12_playsGame 36 = .ok (.iinc 5 (-1), 3) := by decide +kernel
theorem dX12_playsGame_39 : decode cX12_playsGame 39 = .ok (.aload_n 0, 1) := by decide +kernel
theorem dX12_playsGame_40 : decode cX12_playsGame 40 = .ok (.iload 5, 2) := by decide +kernel
theorem dX12_playsGame_42 : decode cX12_playsGame 42 = .ok (.aload_n 0, 1) := by decide +kernel
theorem dX12_playsGame_43 : decode cX12_playsGame 43 = .ok (.iload_n 1, 1) := by decide +kernel
theorem dX12_playsGame_44 : decode cX12_playsGame 44 = .ok (.iload_n 2, 1) := by decide +kernel
theorem dX12_playsGame_45 : decode cX12_playsGame 45 = .ok (.iload_n 3, 1) := by decide +kernel
theorem dX12_playsGame_46 : decode cX12_playsGame 46 = .ok (.iload 4, 2) := by decide +kernel
theorem dX12_playsGame_48 : decode cX12_playsGame 48 = .ok (.invokevirtual 527, 3) := by decide +kernel
theorem dX12_playsGame_51 : decode cX12_playsGame 51 = .ok (.iload_n 3, 1) := by decide +kernel
theorem dX12_playsGame_52 : decode cX12_playsGame 52 = .ok (.invokevirtual 531, 3) := by decide +kernel
theorem dX12_playsGame_55 : decode cX12_playsGame 55 = .ok (.goto (-31), 3) := by decide +kernel
theorem dX12_playsGame_58 : decode cX12_playsGame 58 = .ok (.aload_n 0, 1) := by decide +kernel
theorem dX12_playsGame_59 : decode cX12_playsGame 59 = .ok (.getfield 142, 3) := by decide +kernel
theorem dX12_playsGame_62 : decode cX12_playsGame 62 = .ok (.iload 5, 2) := by decide +kernel
theorem dX12_playsGame_64 : decode cX12_playsGame 64 = .ok (.dup2, 1) := by decide +kernel
theorem dX12_playsGame_65 : decode cX12_playsGame 65 = .ok (.iaload, 1) := by decide +kernel
theorem dX12_playsGame_66 : decode cX12_playsGame 66 = .ok (.iconst 1, 1) := by decide +kernel
theorem dX12_playsGame_67 : decode cX12_playsGame 67 = .ok (.iadd, 1) := by decide +kernel
theorem dX12_playsGame_68 : decode cX12_playsGame 68 = .ok (.iastore, 1) := by decide +kernel
theorem dX12_playsGame_69 : decode cX12_playsGame 69 = .ok (.aload_n 0, 1) := by decide +kernel
theorem dX12_playsGame_70 : decode cX12_playsGame 70 = .ok (.getfield 142, 3) := by decide +kernel
theorem dX12_playsGame_73 : decode cX12_playsGame 73 = .ok (.iload 5, 2) := by decide +kernel
theorem dX12_playsGame_75 : decode cX12_playsGame 75 = .ok (.iaload, 1) := by decide +kernel
theorem dX12_playsGame_76 : decode cX12_playsGame 76 = .ok (.aload_n 0, 1) := by decide +kernel
theorem dX12_playsGame_77 : decode cX12_playsGame 77 = .ok (.iload_n 3, 1) := by decide +kernel
theorem dX12_playsGame_78 : decode cX12_playsGame 78 = .ok (.invokevirtual 396, 3) := by decide +kernel
theorem dX12_playsGame_81 : decode cX12_playsGame 81 = .ok (.if_icmp .ge 28, 3) := by decide +kernel
theorem dX12_playsGame_84 : decode cX12_playsGame 84 = .ok (.iinc 5 1, 3) := by decide +kernel
theorem dX12_playsGame_87 : decode cX12_playsGame 87 = .ok (.aload_n 0, 1) := by decide +kernel
theorem dX12_playsGame_88 : decode cX12_playsGame 88 = .ok (.getfield 142, 3) := by decide +kernel
theorem dX12_playsGame_91 : decode cX12_playsGame 91 = .ok (.iload 5, 2) := by decide +kernel
theorem dX12_playsGame_93 : decode cX12_playsGame 93 = .ok (.bipush (-2), 2) := by decide +kernel
theorem dX12_playsGame_95 : decode cX12_playsGame 95 = .ok (.iastore, 1) := by decide +kernel
theorem dX12_playsGame_96 : decode cX12_playsGame 96 = .ok (.aload_n 0, 1) := by decide +kernel
theorem dX12_playsGame_97 : decode cX12_playsGame 97 = .ok (.getfield 145, 3) := by decide +kernel
theorem dX12_playsGame_100 : decode cX12_playsGame 100 = .ok (.iload 5, 2) := by decide +kernel
theorem dX12_playsGame_102 : decode cX12_playsGame 102 = .ok (.sipush 1000, 3) := by decide +kernel
theorem dX12_playsGame_105 : decode cX12_playsGame 105 = .ok (.iastore, 1) := by decide +kernel
theorem dX12_playsGame_106 : decode cX12_playsGame 106 = .ok (.goto (-82), 3) := by decide +kernel
theorem dX12_playsGame_109 : decode cX12_playsGame 109 = .ok (.iinc 5 (-1), 3) := by decide +kernel
theorem dX12_playsGame_112 : decode cX12_playsGame 112 = .ok (.iload 5, 2) := by decide +kernel
theorem dX12_playsGame_114 : decode cX12_playsGame 114 = .ok (.ifCond .lt (-90), 3) := by decide +kernel
theorem dX12_playsGame_117 : decode cX12_playsGame 117 = .ok (.aload_n 0, 1) := by decide +kernel
theorem dX12_playsGame_118 : decode cX12_playsGame 118 = .ok (.iload 5, 2) := by decide +kernel
theorem dX12_playsGame_120 : decode cX12_playsGame 120 = .ok (.aload_n 0, 1) := by decide +kernel
theorem dX12_playsGame_121 : decode cX12_playsGame 121 = .ok (.getfield 145, 3) := by decide +kernel
theorem dX12_playsGame_124 : decode cX12_playsGame 124 = .ok (.iload 5, 2) := by decide +kernel
theorem dX12_playsGame_126 : decode cX12_playsGame 126 = .ok (.iconst 1, 1) := by decide +kernel
theorem dX12_playsGame_127 : decode cX12_playsGame 127 = .ok (.iadd, 1) := by decide +kernel
theorem dX12_playsGame_128 : decode cX12_playsGame 128 = .ok (.iaload, 1) := by decide +kernel
theorem dX12_playsGame_129 : decode cX12_playsGame 129 = .ok (.iload_n 3, 1) := by decide +kernel
theorem dX12_playsGame_130 : decode cX12_playsGame 130 = .ok (.invokevirtual 531, 3) := by decide +kernel
theorem dX12_playsGame_133 : decode cX12_playsGame 133 = .ok (.goto (-109), 3) := by decide +kernel
theorem dX12_playsGame_136 : decode cX12_playsGame 136 = .ok (.aload_n 0, 1) := by decide +kernel
theorem dX12_playsGame_137 : decode cX12_playsGame 137 = .ok (.getfield 145, 3) := by decide +kernel
theorem dX12_playsGame_140 : decode cX12_playsGame 140 = .ok (.iconst 0, 1) := by decide +kernel
theorem dX12_playsGame_141 : decode cX12_playsGame 141 = .ok (.iaload, 1) := by decide +kernel
theorem dX12_playsGame_142 : decode cX12_playsGame 142 = .ok (.ireturn, 1) := by decide +kernel
theorem dX12_game_0 : decode cX12_game 0 = .ok (.aload_n 0, 1) := by decide +kernel
theorem dX12_game_1 : decode cX12_game 1 = .ok (.iload_n 1, 1) := by decide +kernel
theorem dX12_game_2 : decode cX12_game 2 = .ok (.invokevirtual 423, 3) := by decide +kernel
theorem dX12_game_5 : decode cX12_game 5 = .ok (.ifCond .eq 56, 3) := by decide +kernel
theorem dX12_game_8 : decode cX12_game 8 = .ok (.aload_n 0, 1) := by decide +kernel
theorem dX12_game_9 : decode cX12_game 9 = .ok (.iload_n 2, 1) := by decide +kernel
theorem dX12_game_10 : decode cX12_game 10 = .ok (.invokevirtual 423, 3) := by decide +kernel
theorem dX12_game_13 : decode cX12_game 13 = .ok (.ifCond .eq 48, 3) := by decide +kernel
theorem dX12_game_16 : decode cX12_game 16 = .ok (.iload_n 1, 1) := by decide +kernel
theorem dX12_game_17 : decode cX12_game 17 = .ok (.iload_n 2, 1) := by decide +kernel
theorem dX12_game_18 : decode cX12_game 18 = .ok (.if_icmp .eq 43, 3) := by decide +kernel
theorem dX12_game_21 : decode cX12_game 21 = .ok (.aload_n 0, 1) := by decide +kernel
theorem dX12_game_22 : decode cX12_game 22 = .ok (.iload_n 3, 1) := by decide +kernel
theorem dX12_game_23 : decode cX12_game 23 = .ok (.invokevirtual 417, 3) := by decide +kernel
theorem dX12_game_26 : decode cX12_game 26 = .ok (.ifCond .eq 35, 3) := by decide +kernel
theorem dX12_game_29 : decode cX12_game 29 = .ok (.aload_n 0, 1) := by decide +kernel
theorem dX12_game_30 : decode cX12_game 30 = .ok (.iload_n 3, 1) := by decide +kernel
theorem dX12_game_31 : decode cX12_game 31 = .ok (.invokevirtual 336, 3) := by decide +kernel
theorem dX12_game_34 : decode cX12_game 34 = .ok (.ifCond .ne 27, 3) := by decide +kernel
theorem dX12_game_37 : decode cX12_game 37 = .ok (.iload 4, 2) := by decide +kernel
theorem dX12_game_39 : decode cX12_game 39 = .ok (.i2l, 1) := by decide +kernel
theorem dX12_game_40 : decode cX12_game 40 = .ok (.lconst 1, 1) := by decide +kernel
theorem dX12_game_41 : decode cX12_game 41 = .ok (.ldc2_w 535, 3) := by decide +kernel
theorem dX12_game_44 : decode cX12_game 44 = .ok (.invokestatic 164, 3) := by decide +kernel
theorem dX12_game_47 : decode cX12_game 47 = .ok (.ifCond .eq 14, 3) := by decide +kernel
theorem dX12_game_50 : decode cX12_game 50 = .ok (.iload 5, 2) := by decide +kernel
theorem dX12_game_52 : decode cX12_game 52 = .ok (.i2l, 1) := by decide +kernel
theorem dX12_game_53 : decode cX12_game 53 = .ok (.lconst 0, 1) := by decide +kernel
theorem dX12_game_54 : decode cX12_game 54 = .ok (.lconst 1, 1) := by decide +kernel
theorem dX12_game_55 : decode cX12_game 55 = .ok (.invokestatic 164, 3) := by decide +kernel
theorem dX12_game_58 : decode cX12_game 58 = .ok (.ifCond .ne 6, 3) := by decide +kernel
theorem dX12_game_61 : decode cX12_game 61 = .ok (.bipush (-100), 2) := by decide +kernel
theorem dX12_game_63 : decode cX12_game 63 = .ok (.ireturn, 1) := by decide +kernel
theorem dX12_game_64 : decode cX12_game 64 = .ok (.aload_n 0, 1) := by decide +kernel
theorem dX12_game_65 : decode cX12_game 65 = .ok (.iload_n 1, 1) := by decide +kernel
theorem dX12_game_66 : decode cX12_game 66 = .ok (.iload_n 2, 1) := by decide +kernel
theorem dX12_game_67 : decode cX12_game 67 = .ok (.iload_n 3, 1) := by decide +kernel
theorem dX12_game_68 : decode cX12_game 68 = .ok (.iload 4, 2) := by decide +kernel
theorem dX12_game_70 : decode cX12_game 70 = .ok (.invokevirtual 537, 3) := by decide +kernel
theorem dX12_game_73 : decode cX12_game 73 = .ok (.istore 6, 2) := by decide +kernel
theorem dX12_game_75 : decode cX12_game 75 = .ok (.iload 5, 2) := by decide +kernel
theorem dX12_game_77 : decode cX12_game 77 = .ok (.ifCond .ne 8, 3) := by decide +kernel
theorem dX12_game_80 : decode cX12_game 80 = .ok (.iload 6, 2) := by decide +kernel
theorem dX12_game_82 : decode cX12_game 82 = .ok (.goto 7, 3) := by decide +kernel
theorem dX12_game_85 : decode cX12_game 85 = .ok (.aload_n 0, 1) := by decide +kernel
theorem dX12_game_86 : decode cX12_game 86 = .ok (.getfield 524, 3) := by decide +kernel
theorem dX12_game_89 : decode cX12_game 89 = .ok (.ireturn, 1) := by decide +kernel
theorem dX12_share_0 : decode cX12_share 0 = .ok (.aload_n 0, 1) := by decide +kernel
theorem dX12_share_1 : decode cX12_share 1 = .ok (.iload_n 1, 1) := by decide +kernel
theorem dX12_share_2 : decode cX12_share 2 = .ok (.invokevirtual 423, 3) := by decide +kernel
theorem dX12_share_5 : decode cX12_share 5 = .ok (.ifCond .eq 21, 3) := by decide +kernel
theorem dX12_share_8 : decode cX12_share 8 = .ok (.aload_n 0, 1) := by decide +kernel
theorem dX12_share_9 : decode cX12_share 9 = .ok (.iload_n 2, 1) := by decide +kernel
theorem dX12_share_10 : decode cX12_share 10 = .ok (.invokevirtual 417, 3) := by decide +kernel
theorem dX12_share_13 : decode cX12_share 13 = .ok (.ifCond .eq 13, 3) := by decide +kernel
theorem dX12_share_16 : decode cX12_share 16 = .ok (.iload_n 3, 1) := by decide +kernel
theorem dX12_share_17 : decode cX12_share 17 = .ok (.i2l, 1) := by decide +kernel
theorem dX12_share_18 : decode cX12_share 18 = .ok (.lconst 0, 1) := by decide +kernel
theorem dX12_share_19 : decode cX12_share 19 = .ok (.lconst 1, 1) := by decide +kernel
theorem dX12_share_20 : decode cX12_share 20 = .ok (.invokestatic 164, 3) := by decide +kernel
theorem dX12_share_23 : decode cX12_share 23 = .ok (.ifCond .ne 5, 3) := by decide +kernel
theorem dX12_share_26 : decode cX12_share 26 = .ok (.iconst (-1), 1) := by decide +kernel
theorem dX12_share_27 : decode cX12_share 27 = .ok (.ireturn, 1) := by decide +kernel
theorem dX12_share_28 : decode cX12_share 28 = .ok (.aload_n 0, 1) := by decide +kernel
theorem dX12_share_29 : decode cX12_share 29 = .ok (.iload_n 2, 1) := by decide +kernel
theorem dX12_share_30 : decode cX12_share 30 = .ok (.aload_n 0, 1) := by decide +kernel
theorem dX12_share_31 : decode cX12_share 31 = .ok (.getfield 9, 3) := by decide +kernel
theorem dX12_share_34 : decode cX12_share 34 = .ok (.bipush 9, 2) := by decide +kernel
theorem dX12_share_36 : decode cX12_share 36 = .ok (.iaload, 1) := by decide +kernel
theorem dX12_share_37 : decode cX12_share 37 = .ok (.iconst 0, 1) := by decide +kernel
theorem dX12_share_38 : decode cX12_share 38 = .ok (.invokevirtual 392, 3) := by decide +kernel
theorem dX12_share_41 : decode cX12_share 41 = .ok (.aload_n 0, 1) := by decide +kernel
theorem dX12_share_42 : decode cX12_share 42 = .ok (.getfield 124, 3) := by decide +kernel
theorem dX12_share_45 : decode cX12_share 45 = .ok (.iload_n 1, 1) := by decide +kernel
theorem dX12_share_46 : decode cX12_share 46 = .ok (.iaload, 1) := by decide +kernel
theorem dX12_share_47 : decode cX12_share 47 = .ok (.istore 4, 2) := by decide +kernel
theorem dX12_share_49 : decode cX12_share 49 = .ok (.iload 4, 2) := by decide +kernel
theorem dX12_share_51 : decode cX12_share 51 = .ok (.istore 5, 2) := by decide +kernel
theorem dX12_share_53 : decode cX12_share 53 = .ok (.aload_n 0, 1) := by decide +kernel
theorem dX12_share_54 : decode cX12_share 54 = .ok (.iload_n 2, 1) := by decide +kernel
theorem dX12_share_55 : decode cX12_share 55 = .ok (.invokevirtual 396, 3) := by decide +kernel
theorem dX12_share_58 : decode cX12_share 58 = .ok (.istore 6, 2) := by decide +kernel
theorem dX12_share_60 : decode cX12_share 60 = .ok (.iload 5, 2) := by decide +kernel
theorem dX12_share_62 : decode cX12_share 62 = .ok (.ifCond .eq 21, 3) := by decide +kernel
theorem dX12_share_65 : decode cX12_share 65 = .ok (.iload 6, 2) := by decide +kernel
theorem dX12_share_67 : decode cX12_share 67 = .ok (.iload 5, 2) := by decide +kernel
theorem dX12_share_69 : decode cX12_share 69 = .ok (.irem, 1) := by decide +kernel
theorem dX12_share_70 : decode cX12_share 70 = .ok (.istore 7, 2) := by decide +kernel
theorem dX12_share_72 : decode cX12_share 72 = .ok (.iload 5, 2) := by decide +kernel
theorem dX12_share_74 : decode cX12_share 74 = .ok (.istore 6, 2) := by decide +kernel
theorem dX12_share_76 : decode cX12_share 76 = .ok (.iload 7, 2) := by decide +kernel
theorem dX12_share_78 : decode cX12_share 78 = .ok (.istore 5, 2) := by decide +kernel
theorem dX12_share_80 : decode cX12_share 80 = .ok (.goto (-20), 3) := by decide +kernel
theorem dX12_share_83 : decode cX12_share 83 = .ok (.iload_n 3, 1) := by decide +kernel
theorem dX12_share_84 : decode cX12_share 84 = .ok (.ifCond .ne 11, 3) := by decide +kernel
theorem dX12_share_87 : decode cX12_share 87 = .ok (.iload 4, 2) := by decide +kernel
theorem dX12_share_89 : decode cX12_share 89 = .ok (.iload 6, 2) := by decide +kernel
theorem dX12_share_91 : decode cX12_share 91 = .ok (.idiv, 1) := by decide +kernel
theorem dX12_share_92 : decode cX12_share 92 = .ok (.goto 11, 3) := by decide +kernel
theorem dX12_share_95 : decode cX12_share 95 = .ok (.aload_n 0, 1) := by decide +kernel
theorem dX12_share_96 : decode cX12_share 96 = .ok (.iload_n 2, 1) := by decide +kernel
theorem dX12_share_97 : decode cX12_share 97 = .ok (.invokevirtual 396, 3) := by decide +kernel
theorem dX12_share_100 : decode cX12_share 100 = .ok (.iload 6, 2) := by decide +kernel
theorem dX12_share_102 : decode cX12_share 102 = .ok (.idiv, 1) := by decide +kernel
theorem dX12_share_103 : decode cX12_share 103 = .ok (.ireturn, 1) := by decide +kernel
theorem dX12_then_0 : decode cX12_then 0 = .ok (.aload_n 0, 1) := by decide +kernel
theorem dX12_then_1 : decode cX12_then 1 = .ok (.iload_n 1, 1) := by decide +kernel
theorem dX12_then_2 : decode cX12_then 2 = .ok (.invokevirtual 417, 3) := by decide +kernel
theorem dX12_then_5 : decode cX12_then 5 = .ok (.ifCond .eq 20, 3) := by decide +kernel
theorem dX12_then_8 : decode cX12_then 8 = .ok (.iload_n 2, 1) := by decide +kernel
theorem dX12_then_9 : decode cX12_then 9 = .ok (.i2l, 1) := by decide +kernel
theorem dX12_then_10 : decode cX12_then 10 = .ok (.lconst 0, 1) := by decide +kernel
theorem dX12_then_11 : decode cX12_then 11 = .ok (.aload_n 0, 1) := by decide +kernel
theorem dX12_then_12 : decode cX12_then 12 = .ok (.getfield 9, 3) := by decide +kernel
theorem dX12_then_15 : decode cX12_then 15 = .ok (.bipush 9, 2) := by decide +kernel
theorem dX12_then_17 : decode cX12_then 17 = .ok (.iaload, 1) := by decide +kernel
theorem dX12_then_18 : decode cX12_then 18 = .ok (.i2l, 1) := by decide +kernel
theorem dX12_then_19 : decode cX12_then 19 = .ok (.invokestatic 164, 3) := by decide +kernel
theorem dX12_then_22 : decode cX12_then 22 = .ok (.ifCond .ne 6, 3) := by decide +kernel
theorem dX12_then_25 : decode cX12_then 25 = .ok (.bipush (-2), 2) := by decide +kernel
theorem dX12_then_27 : decode cX12_then 27 = .ok (.ireturn, 1) := by decide +kernel
theorem dX12_then_28 : decode cX12_then 28 = .ok (.aload_n 0, 1) := by decide +kernel
theorem dX12_then_29 : decode cX12_then 29 = .ok (.iload_n 1, 1) := by decide +kernel
theorem dX12_then_30 : decode cX12_then 30 = .ok (.invokevirtual 336, 3) := by decide +kernel
theorem dX12_then_33 : decode cX12_then 33 = .ok (.ifCond .eq 5, 3) := by decide +kernel
theorem dX12_then_36 : decode cX12_then 36 = .ok (.iconst (-1), 1) := by decide +kernel
theorem dX12_then_37 : decode cX12_then 37 = .ok (.ireturn, 1) := by decide +kernel
theorem dX12_then_38 : decode cX12_then 38 = .ok (.aload_n 0, 1) := by decide +kernel
theorem dX12_then_39 : decode cX12_then 39 = .ok (.iload_n 1, 1) := by decide +kernel
theorem dX12_then_40 : decode cX12_then 40 = .ok (.iload_n 2, 1) := by decide +kernel
theorem dX12_then_41 : decode cX12_then 41 = .ok (.iconst 1, 1) := by decide +kernel
theorem dX12_then_42 : decode cX12_then 42 = .ok (.invokevirtual 392, 3) := by decide +kernel
theorem dX12_then_45 : decode cX12_then 45 = .ok (.aload_n 0, 1) := by decide +kernel
theorem dX12_then_46 : decode cX12_then 46 = .ok (.aload_n 0, 1) := by decide +kernel
theorem dX12_then_47 : decode cX12_then 47 = .ok (.iload_n 1, 1) := by decide +kernel
theorem dX12_then_48 : decode cX12_then 48 = .ok (.invokevirtual 396, 3) := by decide +kernel
theorem dX12_then_51 : decode cX12_then 51 = .ok (.aload_n 0, 1) := by decide +kernel
theorem dX12_then_52 : decode cX12_then 52 = .ok (.getfield 9, 3) := by decide +kernel
theorem dX12_then_55 : decode cX12_then 55 = .ok (.iconst 1, 1) := by decide +kernel
theorem dX12_then_56 : decode cX12_then 56 = .ok (.iaload, 1) := by decide +kernel
theorem dX12_then_57 : decode cX12_then 57 = .ok (.invokevirtual 399, 3) := by decide +kernel
theorem dX12_then_60 : decode cX12_then 60 = .ok (.ireturn, 1) := by decide +kernel
theorem dX12_byPart_0 : decode cX12_byPart 0 = .ok (.aload_n 0, 1) := by decide +kernel
theorem dX12_byPart_1 : decode cX12_byPart 1 = .ok (.iload_n 1, 1) := by decide +kernel
theorem dX12_byPart_2 : decode cX12_byPart 2 = .ok (.invokevirtual 417, 3) := by decide +kernel
theorem dX12_byPart_5 : decode cX12_byPart 5 = .ok (.ifCond .eq 15, 3) := by decide +kernel
theorem dX12_byPart_8 : decode cX12_byPart 8 = .ok (.iload_n 2, 1) := by decide +kernel
theorem dX12_byPart_9 : decode cX12_byPart 9 = .ok (.i2l, 1) := by decide +kernel
theorem dX12_byPart_10 : decode cX12_byPart 10 = .ok (.lconst 1, 1) := by decide +kernel
theorem dX12_byPart_11 : decode cX12_byPart 11 = .ok (.ldc2_w 489, 3) := by decide +kernel
theorem dX12_byPart_14 : decode cX12_byPart 14 = .ok (.invokestatic 164, 3) := by decide +kernel
theorem dX12_byPart_17 : decode cX12_byPart 17 = .ok (.ifCond .ne 6, 3) := by decide +kernel
theorem dX12_byPart_20 : decode cX12_byPart 20 = .ok (.bipush (-2), 2) := by decide +kernel
theorem dX12_byPart_22 : decode cX12_byPart 22 = .ok (.ireturn, 1) := by decide +kernel
theorem dX12_byPart_23 : decode cX12_byPart 23 = .ok (.aload_n 0, 1) := by decide +kernel
theorem dX12_byPart_24 : decode cX12_byPart 24 = .ok (.iload_n 1, 1) := by decide +kernel
theorem dX12_byPart_25 : decode cX12_byPart 25 = .ok (.invokevirtual 336, 3) := by decide +kernel
theorem dX12_byPart_28 : decode cX12_byPart 28 = .ok (.ifCond .eq 5, 3) := by decide +kernel
theorem dX12_byPart_31 : decode cX12_byPart 31 = .ok (.iconst (-1), 1) := by decide +kernel
theorem dX12_byPart_32 : decode cX12_byPart 32 = .ok (.ireturn, 1) := by decide +kernel
theorem dX12_byPart_33 : decode cX12_byPart 33 = .ok (.aload_n 0, 1) := by decide +kernel
theorem dX12_byPart_34 : decode cX12_byPart 34 = .ok (.iload_n 1, 1) := by decide +kernel
theorem dX12_byPart_35 : decode cX12_byPart 35 = .ok (.aload_n 0, 1) := by decide +kernel
theorem dX12_byPart_36 : decode cX12_byPart 36 = .ok (.getfield 9, 3) := by decide +kernel
theorem dX12_byPart_39 : decode cX12_byPart 39 = .ok (.bipush 9, 2) := by decide +kernel
theorem dX12_byPart_41 : decode cX12_byPart 41 = .ok (.iaload, 1) := by decide +kernel
theorem dX12_byPart_42 : decode cX12_byPart 42 = .ok (.iconst 0, 1) := by decide +kernel
theorem dX12_byPart_43 : decode cX12_byPart 43 = .ok (.invokevirtual 392, 3) := by decide +kernel
theorem dX12_byPart_46 : decode cX12_byPart 46 = .ok (.aload_n 0, 1) := by decide +kernel
theorem dX12_byPart_47 : decode cX12_byPart 47 = .ok (.aload_n 0, 1) := by decide +kernel
theorem dX12_byPart_48 : decode cX12_byPart 48 = .ok (.iload_n 1, 1) := by decide +kernel
theorem dX12_byPart_49 : decode cX12_byPart 49 = .ok (.invokevirtual 396, 3) := by decide +kernel
theorem dX12_byPart_52 : decode cX12_byPart 52 = .ok (.iload_n 2, 1) := by decide +kernel
theorem dX12_byPart_53 : decode cX12_byPart 53 = .ok (.invokevirtual 399, 3) := by decide +kernel
theorem dX12_byPart_56 : decode cX12_byPart 56 = .ok (.ireturn, 1) := by decide +kernel
theorem dX12_isOneColour_0 : decode cX12_isOneColour 0 = .ok (.iconst (-1), 1) := by decide +kernel
theorem dX12_isOneColour_1 : decode cX12_isOneColour 1 = .ok (.istore_n 1, 1) := by decide +kernel
theorem dX12_isOneColour_2 : decode cX12_isOneColour 2 = .ok (.iconst 0, 1) := by decide +kernel
theorem dX12_isOneColour_3 : decode cX12_isOneColour 3 = .ok (.istore_n 2, 1) := by decide +kernel
theorem dX12_isOneColour_4 : decode cX12_isOneColour 4 = .ok (.iload_n 2, 1) := by decide +kernel
theorem dX12_isOneColour_5 : decode cX12_isOneColour 5 = .ok (.aload_n 0, 1) := by decide +kernel
theorem dX12_isOneColour_6 : decode cX12_isOneColour 6 = .ok (.getfield 9, 3) := by decide +kernel
theorem dX12_isOneColour_9 : decode cX12_isOneColour 9 = .ok (.iconst 4, 1) := by decide +kernel
theorem dX12_isOneColour_10 : decode cX12_isOneColour 10 = .ok (.iaload, 1) := by decide +kernel
theorem dX12_isOneColour_11 : decode cX12_isOneColour 11 = .ok (.if_icmp .ge 66, 3) := by decide +kernel
theorem dX12_isOneColour_14 : decode cX12_isOneColour 14 = .ok (.aload_n 0, 1) := by decide +kernel
theorem dX12_isOneColour_15 : decode cX12_isOneColour 15 = .ok (.aload_n 0, 1) := by decide +kernel
theorem dX12_isOneColour_16 : decode cX12_isOneColour 16 = .ok (.iload_n 2, 1) := by decide +kernel
theorem dX12_isOneColour_17 : decode cX12_isOneColour 17 = .ok (.invokevirtual 408, 3) := by decide +kernel
theorem dX12_isOneColour_20 : decode cX12_isOneColour 20 = .ok (.invokevirtual 336, 3) := by decide +kernel
theorem dX12_isOneColour_23 : decode cX12_isOneColour 23 = .ok (.ifCond .ne 48, 3) := by decide +kernel
theorem dX12_isOneColour_26 : decode cX12_isOneColour 26 = .ok (.aload_n 0, 1) := by decide +kernel
theorem dX12_isOneColour_27 : decode cX12_isOneColour 27 = .ok (.getfield 31, 3) := by decide +kernel
theorem dX12_isOneColour_30 : decode cX12_isOneColour 30 = .ok (.iload_n 2, 1) := by decide +kernel
theorem dX12_isOneColour_31 : decode cX12_isOneColour 31 = .ok (.iaload, 1) := by decide +kernel
theorem dX12_isOneColour_32 : decode cX12_isOneColour 32 = .ok (.ifCond .ne 8, 3) := by decide +kernel
theorem dX12_isOneColour_35 : decode cX12_isOneColour 35 = .ok (.bipush (-2), 2) := by decide +kernel
theorem dX12_isOneColour_37 : decode cX12_isOneColour 37 = .ok (.goto 13, 3) := by decide +kernel
theorem dX12_isOneColour_40 : decode cX12_isOneColour 40 = .ok (.aload_n 0, 1) := by decide +kernel
theorem dX12_isOneColour_41 : decode cX12_isOneColour 41 = .ok (.getfield 19, 3) := by decide +kernel
theorem dX12_isOneColour_44 : decode cX12_isOneColour 44 = .ok (.aload_n 0, 1) := by decide +kernel
theorem dX12_isOneColour_45 : decode cX12_isOneColour 45 = .ok (.iload_n 2, 1) := by decide +kernel
theorem dX12_isOneColour_46 : decode cX12_isOneColour 46 = .ok (.invokevirtual 411, 3) := by decide +kernel
theorem dX12_isOneColour_49 : decode cX12_isOneColour 49 = .ok (.iaload, 1) := by decide +kernel
theorem dX12_isOneColour_50 : decode cX12_isOneColour 50 = .ok (.istore_n 3, 1) := by decide +kernel
theorem dX12_isOneColour_51 : decode cX12_isOneColour 51 = .ok (.iload_n 3, 1) := by decide +kernel
theorem dX12_isOneColour_52 : decode cX12_isOneColour 52 = .ok (.bipush (-2), 2) := by decide +kernel
theorem dX12_isOneColour_54 : decode cX12_isOneColour 54 = .ok (.if_icmp .eq 13, 3) := by decide +kernel
theorem dX12_isOneColour_57 : decode cX12_isOneColour 57 = .ok (.iload_n 1, 1) := by decide +kernel
theorem dX12_isOneColour_58 : decode cX12_isOneColour 58 = .ok (.iconst (-1), 1) := by decide +kernel
theorem dX12_isOneColour_59 : decode cX12_isOneColour 59 = .ok (.if_icmp .eq 10, 3) := by decide +kernel
theorem dX12_isOneColour_62 : decode cX12_isOneColour 62 = .ok (.iload_n 3, 1) := by decide +kernel
theorem dX12_isOneColour_63 : decode cX12_isOneColour 63 = .ok (.iload_n 1, 1) := by decide +kernel
theorem dX12_isOneColour_64 : decode cX12_isOneColour 64 = .ok (.if_icmp .eq 5, 3) := by decide +kernel
theorem dX12_isOneColour_67 : decode cX12_isOneColour 67 = .ok (.iconst 0, 1) := by decide +kernel
theorem dX12_isOneColour_68 : decode cX12_isOneColour 68 = .ok (.ireturn, 1) := by decide +kernel
theorem dX12_isOneColour_69 : decode cX12_isOneColour 69 = .ok (.iload_n 3, 1) := by decide +kernel
theorem dX12_isOneColour_70 : decode cX12_isOneColour 70 = .ok (.istore_n 1, 1) := by decide +kernel
theorem dX12_isOneColour_71 : decode cX12_isOneColour 71 = .ok (.iinc 2 1, 3) := by decide +kernel
theorem dX12_isOneColour_74 : decode cX12_isOneColour 74 = .ok (.goto (-70), 3) := by decide +kernel
theorem dX12_isOneColour_77 : decode cX12_isOneColour 77 = .ok (.iconst 1, 1) := by decide +kernel
theorem dX12_isOneColour_78 : decode cX12_isOneColour 78 = .ok (.ireturn, 1) := by decide +kernel
theorem dX12_one_0 : decode cX12_one 0 = .ok (.aload_n 0, 1) := by decide +kernel
theorem dX12_one_1 : decode cX12_one 1 = .ok (.invokevirtual 429, 3) := by decide +kernel
theorem dX12_one_4 : decode cX12_one 4 = .ok (.ifCond .ne 5, 3) := by decide +kernel
theorem dX12_one_7 : decode cX12_one 7 = .ok (.iconst (-1), 1) := by decide +kernel
theorem dX12_one_8 : decode cX12_one 8 = .ok (.ireturn, 1) := by decide +kernel
theorem dX12_one_9 : decode cX12_one 9 = .ok (.aload_n 0, 1) := by decide +kernel
theorem dX12_one_10 : decode cX12_one 10 = .ok (.invokevirtual 491, 3) := by decide +kernel
theorem dX12_one_13 : decode cX12_one 13 = .ok (.bipush (-2), 2) := by decide +kernel
theorem dX12_one_15 : decode cX12_one 15 = .ok (.istore_n 1, 1) := by decide +kernel
theorem dX12_one_16 : decode cX12_one 16 = .ok (.iconst 0, 1) := by decide +kernel
theorem dX12_one_17 : decode cX12_one 17 = .ok (.istore_n 2, 1) := by decide +kernel
theorem dX12_one_18 : decode cX12_one 18 = .ok (.iload_n 2, 1) := by decide +kernel
theorem dX12_one_19 : decode cX12_one 19 = .ok (.bipush 100, 2) := by decide +kernel
theorem dX12_one_21 : decode cX12_one 21 = .ok (.if_icmp .ge 40, 3) := by decide +kernel
theorem dX12_one_24 : decode cX12_one 24 = .ok (.iload_n 1, 1) := by decide +kernel
theorem dX12_one_25 : decode cX12_one 25 = .ok (.bipush (-2), 2) := by decide +kernel
theorem dX12_one_27 : decode cX12_one 27 = .ok (.if_icmp .ne 34, 3) := by decide +kernel
theorem dX12_one_30 : decode cX12_one 30 = .ok (.aload_n 0, 1) := by decide +kernel
theorem dX12_one_31 : decode cX12_one 31 = .ok (.invokevirtual 540, 3) := by decide +kernel
theorem dX12_one_34 : decode cX12_one 34 = .ok (.ifCond .eq 13, 3) := by decide +kernel
theorem dX12_one_37 : decode cX12_one 37 = .ok (.aload_n 0, 1) := by decide +kernel
theorem dX12_one_38 : decode cX12_one 38 = .ok (.getfield 9, 3) := by decide +kernel
theorem dX12_one_41 : decode cX12_one 41 = .ok (.bipush 9, 2) := by decide +kernel
theorem dX12_one_43 : decode cX12_one 43 = .ok (.iaload, 1) := by decide +kernel
theorem dX12_one_44 : decode cX12_one 44 = .ok (.goto 5, 3) := by decide +kernel
theorem dX12_one_47 : decode cX12_one 47 = .ok (.bipush (-2), 2) := by decide +kernel
theorem dX12_one_49 : decode cX12_one 49 = .ok (.istore_n 1, 1) := by decide +kernel
theorem dX12_one_50 : decode cX12_one 50 = .ok (.aload_n 0, 1) := by decide +kernel
theorem dX12_one_51 : decode cX12_one 51 = .ok (.iconst 1, 1) := by decide +kernel
theorem dX12_one_52 : decode cX12_one 52 = .ok (.invokevirtual 494, 3) := by decide +kernel
theorem dX12_one_55 : decode cX12_one 55 = .ok (.iinc 2 1, 3) := by decide +kernel
theorem dX12_one_58 : decode cX12_one 58 = .ok (.goto (-40), 3) := by decide +kernel
theorem dX12_one_61 : decode cX12_one 61 = .ok (.aload_n 0, 1) := by decide +kernel
theorem dX12_one_62 : decode cX12_one 62 = .ok (.invokevirtual 497, 3) := by decide +kernel
theorem dX12_one_65 : decode cX12_one 65 = .ok (.iload_n 1, 1) := by decide +kernel
theorem dX12_one_66 : decode cX12_one 66 = .ok (.ireturn, 1) := by decide +kernel
theorem dX12_log_0 : decode cX12_log 0 = .ok (.iload_n 1, 1) := by decide +kernel
theorem dX12_log_1 : decode cX12_log 1 = .ok (.iconst (-1), 1) := by decide +kernel
theorem dX12_log_2 : decode cX12_log 2 = .ok (.if_icmp .ne 13, 3) := by decide +kernel
theorem dX12_log_5 : decode cX12_log 5 = .ok (.aload_n 0, 1) := by decide +kernel
theorem dX12_log_6 : decode cX12_log 6 = .ok (.getfield 9, 3) := by decide +kernel
theorem dX12_log_9 : decode cX12_log 9 = .ok (.bipush 10, 2) := by decide +kernel
theorem dX12_log_11 : decode cX12_log 11 = .ok (.iconst 0, 1) := by decide +kernel
theorem dX12_log_12 : decode cX12_log 12 = .ok (.iastore, 1) := by decide +kernel
theorem dX12_log_13 : decode cX12_log 13 = .ok (.iconst 0, 1) := by decide +kernel
theorem dX12_log_14 : decode cX12_log 14 = .ok (.ireturn, 1) := by decide +kernel
theorem dX12_log_15 : decode cX12_log 15 = .ok (.aload_n 0, 1) := by decide +kernel
theorem dX12_log_16 : decode cX12_log 16 = .ok (.getfield 9, 3) := by decide +kernel
theorem dX12_log_19 : decode cX12_log 19 = .ok (.bipush 10, 2) := by decide +kernel
theorem dX12_log_21 : decode cX12_log 21 = .ok (.iaload, 1) := by decide +kernel
theorem dX12_log_22 : decode cX12_log 22 = .ok (.istore 4, 2) := by decide +kernel
theorem dX12_log_24 : decode cX12_log 24 = .ok (.iload_n 1, 1) := by decide +kernel
theorem dX12_log_25 : decode cX12_log 25 = .ok (.i2l, 1) := by decide +kernel
theorem dX12_log_26 : decode cX12_log 26 = .ok (.lconst 0, 1) := by decide +kernel
theorem dX12_log_27 : decode cX12_log 27 = .ok (.ldc2_w 543, 3) := by decide +kernel
theorem dX12_log_30 : decode cX12_log 30 = .ok (.invokestatic 164, 3) := by decide +kernel
theorem dX12_log_33 : decode cX12_log 33 = .ok (.ifCond .eq 31, 3) := by decide +kernel
theorem dX12_log_36 : decode cX12_log 36 = .ok (.aload_n 0, 1) := by decide +kernel
theorem dX12_log_37 : decode cX12_log 37 = .ok (.iload_n 2, 1) := by decide +kernel
theorem dX12_log_38 : decode cX12_log 38 = .ok (.invokevirtual 417, 3) := by decide +kernel
theorem dX12_log_41 : decode cX12_log 41 = .ok (.ifCond .eq 23, 3) := by decide +kernel
theorem dX12_log_44 : decode cX12_log 44 = .ok (.iload_n 3, 1) := by decide +kernel
theorem dX12_log_45 : decode cX12_log 45 = .ok (.iconst (-1), 1) := by decide +kernel
theorem dX12_log_46 : decode cX12_log 46 = .ok (.if_icmp .eq 11, 3) := by decide +kernel
theorem dX12_log_49 : decode cX12_log 49 = .ok (.aload_n 0, 1) := by decide +kernel
theorem dX12_log_50 : decode cX12_log 50 = .ok (.iload_n 3, 1) := by decide +kernel
theorem dX12_log_51 : decode cX12_log 51 = .ok (.invokevirtual 423, 3) := by decide +kernel
theorem dX12_log_54 : decode cX12_log 54 = .ok (.ifCond .eq 10, 3) := by decide +kernel
theorem dX12_log_57 : decode cX12_log 57 = .ok (.iload 4, 2) := by decide +kernel
theorem dX12_log_59 : decode cX12_log 59 = .ok (.bipush 10, 2) := by decide +kernel
theorem dX12_log_61 : decode cX12_log 61 = .ok (.if_icmp .ne 6, 3) := by decide +kernel
theorem dX12_log_64 : decode cX12_log 64 = .ok (.bipush (-2), 2) := by decide +kernel
theorem dX12_log_66 : decode cX12_log 66 = .ok (.ireturn, 1) := by decide +kernel
theorem dX12_log_67 : decode cX12_log 67 = .ok (.aload_n 0, 1) := by decide +kernel
theorem dX12_log_68 : decode cX12_log 68 = .ok (.getfield 40, 3) := by decide +kernel
theorem dX12_log_71 : decode cX12_log 71 = .ok (.iload 4, 2) := by decide +kernel
theorem dX12_log_73 : decode cX12_log 73 = .ok (.iload_n 1, 1) := by decide +kernel
theorem dX12_log_74 : decode cX12_log 74 = .ok (.iastore, 1) := by decide +kernel
theorem dX12_log_75 : decode cX12_log 75 = .ok (.aload_n 0, 1) := by decide +kernel
theorem dX12_log_76 : decode cX12_log 76 = .ok (.getfield 43, 3) := by decide +kernel
theorem dX12_log_79 : decode cX12_log 79 = .ok (.iload 4, 2) := by decide +kernel
theorem dX12_log_81 : decode cX12_log 81 = .ok (.iload_n 2, 1) := by decide +kernel
theorem dX12_log_82 : decode cX12_log 82 = .ok (.iastore, 1) := by decide +kernel
theorem dX12_log_83 : decode cX12_log 83 = .ok (.aload_n 0, 1) := by decide +kernel
theorem dX12_log_84 : decode cX12_log 84 = .ok (.getfield 46, 3) := by decide +kernel
theorem dX12_log_87 : decode cX12_log 87 = .ok (.iload 4, 2) := by decide +kernel
theorem dX12_log_89 : decode cX12_log 89 = .ok (.iload_n 3, 1) := by decide +kernel
theorem dX12_log_90 : decode cX12_log 90 = .ok (.iastore, 1) := by decide +kernel
theorem dX12_log_91 : decode cX12_log 91 = .ok (.aload_n 0, 1) := by decide +kernel
theorem dX12_log_92 : decode cX12_log 92 = .ok (.getfield 9, 3) := by decide +kernel
theorem dX12_log_95 : decode cX12_log 95 = .ok (.bipush 10, 2) := by decide +kernel
theorem dX12_log_97 : decode cX12_log 97 = .ok (.dup2, 1) := by decide +kernel
theorem dX12_log_98 : decode cX12_log 98 = .ok (.iaload, 1) := by decide +kernel
theorem dX12_log_99 : decode cX12_log 99 = .ok (.iconst 1, 1) := by decide +kernel
theorem dX12_log_100 : decode cX12_log 100 = .ok (.iadd, 1) := by decide +kernel
theorem dX12_log_101 : decode cX12_log 101 = .ok (.iastore, 1) := by decide +kernel
theorem dX12_log_102 : decode cX12_log 102 = .ok (.iload 4, 2) := by decide +kernel
theorem dX12_log_104 : decode cX12_log 104 = .ok (.iconst 1, 1) := by decide +kernel
theorem dX12_log_105 : decode cX12_log 105 = .ok (.iadd, 1) := by decide +kernel
theorem dX12_log_106 : decode cX12_log 106 = .ok (.ireturn, 1) := by decide +kernel
theorem dX12_areLogsSo_0 : decode cX12_areLogsSo 0 = .ok (.iconst 1, 1) := by decide +kernel
theorem dX12_areLogsSo_1 : decode cX12_areLogsSo 1 = .ok (.istore_n 2, 1) := by decide +kernel
theorem dX12_areLogsSo_2 : decode cX12_areLogsSo 2 = .ok (.iconst 0, 1) := by decide +kernel
theorem dX12_areLogsSo_3 : decode cX12_areLogsSo 3 = .ok (.istore_n 3, 1) := by decide +kernel
theorem dX12_areLogsSo_4 : decode cX12_areLogsSo 4 = .ok (.iload_n 3, 1) := by decide +kernel
theorem dX12_areLogsSo_5 : decode cX12_areLogsSo 5 = .ok (.aload_n 0, 1) := by decide +kernel
theorem dX12_areLogsSo_6 : decode cX12_areLogsSo 6 = .ok (.getfield 9, 3) := by decide +kernel
theorem dX12_areLogsSo_9 : decode cX12_areLogsSo 9 = .ok (.bipush 10, 2) := by decide +kernel
theorem dX12_areLogsSo_11 : decode cX12_areLogsSo 11 = .ok (.iaload, 1) := by decide +kernel
theorem dX12_areLogsSo_12 : decode cX12_areLogsSo 12 = .ok (.if_icmp .ge 48, 3) := by decide +kernel
theorem dX12_areLogsSo_15 : decode cX12_areLogsSo 15 = .ok (.iload_n 2, 1) := by decide +kernel
theorem dX12_areLogsSo_16 : decode cX12_areLogsSo 16 = .ok (.ifCond .eq 36, 3) := by decide +kernel
theorem dX12_areLogsSo_19 : decode cX12_areLogsSo 19 = .ok (.aload_n 0, 1) := by decide +kernel
theorem dX12_areLogsSo_20 : decode cX12_areLogsSo 20 = .ok (.getfield 40, 3) := by decide +kernel
theorem dX12_areLogsSo_23 : decode cX12_areLogsSo 23 = .ok (.iload_n 3, 1) := by decide +kernel
theorem dX12_areLogsSo_24 : decode cX12_areLogsSo 24 = .ok (.iaload, 1) := by decide +kernel
theorem dX12_areLogsSo_25 : decode cX12_areLogsSo 25 = .ok (.iload_n 1, 1) := by decide +kernel
theorem dX12_areLogsSo_26 : decode cX12_areLogsSo 26 = .ok (.if_icmp .ne 22, 3) := by decide +kernel
theorem dX12_areLogsSo_29 : decode cX12_areLogsSo 29 = .ok (.aload_n 0, 1) := by decide +kernel
theorem dX12_areLogsSo_30 : decode cX12_areLogsSo 30 = .ok (.aload_n 0, 1) := by decide +kernel
theorem dX12_areLogsSo_31 : decode cX12_areLogsSo 31 = .ok (.getfield 43, 3) := by decide +kernel
theorem dX12_areLogsSo_34 : decode cX12_areLogsSo 34 = .ok (.iload_n 3, 1) := by decide +kernel
theorem dX12_areLogsSo_35 : decode cX12_areLogsSo 35 = .ok (.iaload, 1) := by decide +kernel
theorem dX12_areLogsSo_36 : decode cX12_areLogsSo 36 = .ok (.invokevirtual 420, 3) := by decide +kernel
theorem dX12_areLogsSo_39 : decode cX12_areLogsSo 39 = .ok (.aload_n 0, 1) := by decide +kernel
theorem dX12_areLogsSo_40 : decode cX12_areLogsSo 40 = .ok (.getfield 46, 3) := by decide +kernel
theorem dX12_areLogsSo_43 : decode cX12_areLogsSo 43 = .ok (.iload_n 3, 1) := by decide +kernel
theorem dX12_areLogsSo_44 : decode cX12_areLogsSo 44 = .ok (.iaload, 1) := by decide +kernel
theorem dX12_areLogsSo_45 : decode cX12_areLogsSo 45 = .ok (.if_icmp .ne 7, 3) := by decide +kernel
theorem dX12_areLogsSo_48 : decode cX12_areLogsSo 48 = .ok (.iconst 1, 1) := by decide +kernel
theorem dX12_areLogsSo_49 : decode cX12_areLogsSo 49 = .ok (.goto 4, 3) := by decide +kernel
theorem dX12_areLogsSo_52 : decode cX12_areLogsSo 52 = .ok (.iconst 0, 1) := by decide +kernel
theorem dX12_areLogsSo_53 : decode cX12_areLogsSo 53 = .ok (.istore_n 2, 1) := by decide +kernel
theorem dX12_areLogsSo_54 : decode cX12_areLogsSo 54 = .ok (.iinc 3 1, 3) := by decide +kernel
theorem dX12_areLogsSo_57 : decode cX12_areLogsSo 57 = .ok (.goto (-53), 3) := by decide +kernel
theorem dX12_areLogsSo_60 : decode cX12_areLogsSo 60 = .ok (.iload_n 2, 1) := by decide +kernel
theorem dX12_areLogsSo_61 : decode cX12_areLogsSo 61 = .ok (.ireturn, 1) := by decide +kernel
theorem dX12_couldRule_0 : decode cX12_couldRule 0 = .ok (.aload_n 0, 1) := by decide +kernel
theorem dX12_couldRule_1 : decode cX12_couldRule 1 = .ok (.getfield 9, 3) := by decide +kernel
theorem dX12_couldRule_4 : decode cX12_couldRule 4 = .ok (.bipush 12, 2) := by decide +kernel
theorem dX12_couldRule_6 : decode cX12_couldRule 6 = .ok (.iload_n 1, 1) := by decide +kernel
theorem dX12_couldRule_7 : decode cX12_couldRule 7 = .ok (.iastore, 1) := by decide +kernel
theorem dX12_couldRule_8 : decode cX12_couldRule 8 = .ok (.aload_n 0, 1) := by decide +kernel
theorem dX12_couldRule_9 : decode cX12_couldRule 9 = .ok (.invokevirtual 346, 3) := by decide +kernel
theorem dX12_couldRule_12 : decode cX12_couldRule 12 = .ok (.iconst 1, 1) := by decide +kernel
theorem dX12_couldRule_13 : decode cX12_couldRule 13 = .ok (.istore_n 3, 1) := by decide +kernel
theorem dX12_couldRule_14 : decode cX12_couldRule 14 = .ok (.iconst 0, 1) := by decide +kernel
theorem dX12_couldRule_15 : decode cX12_couldRule 15 = .ok (.istore 4, 2) := by decide +kernel
theorem dX12_couldRule_17 : decode cX12_couldRule 17 = .ok (.iload 4, 2) := by decide +kernel
theorem dX12_couldRule_19 : decode cX12_couldRule 19 = .ok (.bipush 99, 2) := by decide +kernel
theorem dX12_couldRule_21 : decode cX12_couldRule 21 = .ok (.if_icmp .gt 72, 3) := by decide +kernel
theorem dX12_couldRule_24 : decode cX12_couldRule 24 = .ok (.iload_n 3, 1) := by decide +kernel
theorem dX12_couldRule_25 : decode cX12_couldRule 25 = .ok (.ifCond .eq 16, 3) := by decide +kernel
theorem dX12_couldRule_28 : decode cX12_couldRule 28 = .ok (.aload_n 0, 1) := by decide +kernel
theorem dX12_couldRule_29 : decode cX12_couldRule 29 = .ok (.iload 4, 2) := by decide +kernel
theorem dX12_couldRule_31 : decode cX12_couldRule 31 = .ok (.invokevirtual 545, 3) := by decide +kernel
theorem dX12_couldRule_34 : decode cX12_couldRule 34 = .ok (.ifCond .eq 7, 3) := by decide +kernel
theorem dX12_couldRule_37 : decode cX12_couldRule 37 = .ok (.iconst 1, 1) := by decide +kernel
theorem dX12_couldRule_38 : decode cX12_couldRule 38 = .ok (.goto 4, 3) := by decide +kernel
theorem dX12_couldRule_41 : decode cX12_couldRule 41 = .ok (.iconst 0, 1) := by decide +kernel
theorem dX12_couldRule_42 : decode cX12_couldRule 42 = .ok (.istore_n 3, 1) := by decide +kernel
theorem dX12_couldRule_43 : decode cX12_couldRule 43 = .ok (.iconst 0, 1) := by decide +kernel
theorem dX12_couldRule_44 : decode cX12_couldRule 44 = .ok (.istore 5, 2) := by decide +kernel
theorem dX12_couldRule_46 : decode cX12_couldRule 46 = .ok (.iload 5, 2) := by decide +kernel
theorem dX12_couldRule_48 : decode cX12_couldRule 48 = .ok (.aload_n 0, 1) := by decide +kernel
theorem dX12_couldRule_49 : decode cX12_couldRule 49 = .ok (.getfield 9, 3) := by decide +kernel
theorem dX12_couldRule_52 : decode cX12_couldRule 52 = .ok (.iconst 3, 1) := by decide +kernel
theorem dX12_couldRule_53 : decode cX12_couldRule 53 = .ok (.iaload, 1) := by decide +kernel
theorem dX12_couldRule_54 : decode cX12_couldRule 54 = .ok (.if_icmp .ge 28, 3) := by decide +kernel
theorem dX12_couldRule_57 : decode cX12_couldRule 57 = .ok (.iload 4, 2) := by decide +kernel
theorem dX12_couldRule_59 : decode cX12_couldRule 59 = .ok (.iload_n 2, 1) := by decide +kernel
theorem dX12_couldRule_60 : decode cX12_couldRule 60 = .ok (.if_icmp .ne 22, 3) := by decide +kernel
theorem dX12_couldRule_63 : decode cX12_couldRule 63 = .ok (.aload_n 0, 1) := by decide +kernel
theorem dX12_couldRule_64 : decode cX12_couldRule 64 = .ok (.getfield 148, 3) := by decide +kernel
theorem dX12_couldRule_67 : decode cX12_couldRule 67 = .ok (.iload 5, 2) := by decide +kernel
theorem dX12_couldRule_69 : decode cX12_couldRule 69 = .ok (.aload_n 0, 1) := by decide +kernel
theorem dX12_couldRule_70 : decode cX12_couldRule 70 = .ok (.iload 5, 2) := by decide +kernel
theorem dX12_couldRule_72 : decode cX12_couldRule 72 = .ok (.invokevirtual 420, 3) := by decide +kernel
theorem dX12_couldRule_75 : decode cX12_couldRule 75 = .ok (.iastore, 1) := by decide +kernel
theorem dX12_couldRule_76 : decode cX12_couldRule 76 = .ok (.iinc 5 1, 3) := by decide +kernel
theorem dX12_couldRule_79 : decode cX12_couldRule 79 = .ok (.goto (-33), 3) := by decide +kernel
theorem dX12_couldRule_82 : decode cX12_couldRule 82 = .ok (.aload_n 0, 1) := by decide +kernel
theorem dX12_couldRule_83 : decode cX12_couldRule 83 = .ok (.iconst 1, 1) := by decide +kernel
theorem dX12_couldRule_84 : decode cX12_couldRule 84 = .ok (.invokevirtual 494, 3) := by decide +kernel
theorem dX12_couldRule_87 : decode cX12_couldRule 87 = .ok (.iinc 4 1, 3) := by decide +kernel
theorem dX12_couldRule_90 : decode cX12_couldRule 90 = .ok (.goto (-73), 3) := by decide +kernel
theorem dX12_couldRule_93 : decode cX12_couldRule 93 = .ok (.aload_n 0, 1) := by decide +kernel
theorem dX12_couldRule_94 : decode cX12_couldRule 94 = .ok (.invokevirtual 497, 3) := by decide +kernel
theorem dX12_couldRule_97 : decode cX12_couldRule 97 = .ok (.iload_n 3, 1) := by decide +kernel
theorem dX12_couldRule_98 : decode cX12_couldRule 98 = .ok (.ireturn, 1) := by decide +kernel
theorem dX12_ruled_0 : decode cX12_ruled 0 = .ok (.aload_n 0, 1) := by decide +kernel
theorem dX12_ruled_1 : decode cX12_ruled 1 = .ok (.invokevirtual 429, 3) := by decide +kernel
theorem dX12_ruled_4 : decode cX12_ruled 4 = .ok (.ifCond .eq 13, 3) := by decide +kernel
theorem dX12_ruled_7 : decode cX12_ruled 7 = .ok (.iload_n 1, 1) := by decide +kernel
theorem dX12_ruled_8 : decode cX12_ruled 8 = .ok (.i2l, 1) := by decide +kernel
theorem dX12_ruled_9 : decode cX12_ruled 9 = .ok (.lconst 0, 1) := by decide +kernel
theorem dX12_ruled_10 : decode cX12_ruled 10 = .ok (.lconst 1, 1) := by decide +kernel
theorem dX12_ruled_11 : decode cX12_ruled 11 = .ok (.invokestatic 164, 3) := by decide +kernel
theorem dX12_ruled_14 : decode cX12_ruled 14 = .ok (.ifCond .ne 6, 3) := by decide +kernel
theorem dX12_ruled_17 : decode cX12_ruled 17 = .ok (.bipush (-3), 2) := by decide +kernel
theorem dX12_ruled_19 : decode cX12_ruled 19 = .ok (.ireturn, 1) := by decide +kernel
theorem dX12_ruled_20 : decode cX12_ruled 20 = .ok (.aload_n 0, 1) := by decide +kernel
theorem dX12_ruled_21 : decode cX12_ruled 21 = .ok (.invokevirtual 491, 3) := by decide +kernel
theorem dX12_ruled_24 : decode cX12_ruled 24 = .ok (.iconst 0, 1) := by decide +kernel
theorem dX12_ruled_25 : decode cX12_ruled 25 = .ok (.istore_n 2, 1) := by decide +kernel
theorem dX12_ruled_26 : decode cX12_ruled 26 = .ok (.bipush (-2), 2) := by decide +kernel
theorem dX12_ruled_28 : decode cX12_ruled 28 = .ok (.istore_n 3, 1) := by decide +kernel
theorem dX12_ruled_29 : decode cX12_ruled 29 = .ok (.iconst (-1), 1) := by decide +kernel
theorem dX12_ruled_30 : decode cX12_ruled 30 = .ok (.istore 4, 2) := by decide +kernel
theorem dX12_ruled_32 : decode cX12_ruled 32 = .ok (.iload 4, 2) := by decide +kernel
theorem dX12_ruled_34 : decode cX12_ruled 34 = .ok (.aload_n 0, 1) := by decide +kernel
theorem dX12_ruled_35 : decode cX12_ruled 35 = .ok (.getfield 362, 3) := by decide +kernel
theorem dX12_ruled_38 : decode cX12_ruled 38 = .ok (.if_icmp .ge 33, 3) := by decide +kernel
theorem dX12_ruled_41 : decode cX12_ruled 41 = .ok (.aload_n 0, 1) := by decide +kernel
theorem dX12_ruled_42 : decode cX12_ruled 42 = .ok (.iload 4, 2) := by decide +kernel
theorem dX12_ruled_44 : decode cX12_ruled 44 = .ok (.iconst (-1), 1) := by decide +kernel
theorem dX12_ruled_45 : decode cX12_ruled 45 = .ok (.invokevirtual 548, 3) := by decide +kernel
theorem dX12_ruled_48 : decode cX12_ruled 48 = .ok (.ifCond .eq 17, 3) := by decide +kernel
theorem dX12_ruled_51 : decode cX12_ruled 51 = .ok (.iload_n 2, 1) := by decide +kernel
theorem dX12_ruled_52 : decode cX12_ruled 52 = .ok (.ifCond .ne 8, 3) := by decide +kernel
theorem dX12_ruled_55 : decode cX12_ruled 55 = .ok (.iload 4, 2) := by decide +kernel
theorem dX12_ruled_57 : decode cX12_ruled 57 = .ok (.goto 4, 3) := by decide +kernel
theorem dX12_ruled_60 : decode cX12_ruled 60 = .ok (.iload_n 3, 1) := by decide +kernel
theorem dX12_ruled_61 : decode cX12_ruled 61 = .ok (.istore_n 3, 1) := by decide +kernel
theorem dX12_ruled_62 : decode cX12_ruled 62 = .ok (.iinc 2 1, 3) := by decide +kernel
theorem dX12_ruled_65 : decode cX12_ruled 65 = .ok (.iinc 4 1, 3) := by decide +kernel
theorem dX12_ruled_68 : decode cX12_ruled 68 = .ok (.goto (-36), 3) := by decide +kernel
theorem dX12_ruled_71 : decode cX12_ruled 71 = .ok (.iload_n 1, 1) := by decide +kernel
theorem dX12_ruled_72 : decode cX12_ruled 72 = .ok (.ifCond .ne 7, 3) := by decide +kernel
theorem dX12_ruled_75 : decode cX12_ruled 75 = .ok (.iload_n 2, 1) := by decide +kernel
theorem dX12_ruled_76 : decode cX12_ruled 76 = .ok (.goto 4, 3) := by decide +kernel
theorem dX12_ruled_79 : decode cX12_ruled 79 = .ok (.iload_n 3, 1) := by decide +kernel
theorem dX12_ruled_80 : decode cX12_ruled 80 = .ok (.ireturn, 1) := by decide +kernel
theorem dX12_look_0 : decode cX12_look 0 = .ok (.aload_n 0, 1) := by decide +kernel
theorem dX12_look_1 : decode cX12_look 1 = .ok (.invokevirtual 429, 3) := by decide +kernel
theorem dX12_look_4 : decode cX12_look 4 = .ok (.ifCond .eq 25, 3) := by decide +kernel
theorem dX12_look_7 : decode cX12_look 7 = .ok (.iload_n 1, 1) := by decide +kernel
theorem dX12_look_8 : decode cX12_look 8 = .ok (.i2l, 1) := by decide +kernel
theorem dX12_look_9 : decode cX12_look 9 = .ok (.lconst 0, 1) := by decide +kernel
theorem dX12_look_10 : decode cX12_look 10 = .ok (.ldc2_w 543, 3) := by decide +kernel
theorem dX12_look_13 : decode cX12_look 13 = .ok (.invokestatic 164, 3) := by decide +kernel
theorem dX12_look_16 : decode cX12_look 16 = .ok (.ifCond .eq 13, 3) := by decide +kernel
theorem dX12_look_19 : decode cX12_look 19 = .ok (.iload_n 2, 1) := by decide +kernel
theorem dX12_look_20 : decode cX12_look 20 = .ok (.i2l, 1) := by decide +kernel
theorem dX12_look_21 : decode cX12_look 21 = .ok (.lconst 0, 1) := by decide +kernel
theorem dX12_look_22 : decode cX12_look 22 = .ok (.lconst 1, 1) := by decide +kernel
theorem dX12_look_23 : decode cX12_look 23 = .ok (.invokestatic 164, 3) := by decide +kernel
theorem dX12_look_26 : decode cX12_look 26 = .ok (.ifCond .ne 5, 3) := by decide +kernel
theorem dX12_look_29 : decode cX12_look 29 = .ok (.iconst (-1), 1) := by decide +kernel
theorem dX12_look_30 : decode cX12_look 30 = .ok (.ireturn, 1) := by decide +kernel
theorem dX12_look_31 : decode cX12_look 31 = .ok (.iconst 0, 1) := by decide +kernel
theorem dX12_look_32 : decode cX12_look 32 = .ok (.istore_n 3, 1) := by decide +kernel
theorem dX12_look_33 : decode cX12_look 33 = .ok (.iload_n 3, 1) := by decide +kernel
theorem dX12_look_34 : decode cX12_look 34 = .ok (.aload_n 0, 1) := by decide +kernel
theorem dX12_look_35 : decode cX12_look 35 = .ok (.getfield 151, 3) := by decide +kernel
theorem dX12_look_38 : decode cX12_look 38 = .ok (.arraylength, 1) := by decide +kernel
theorem dX12_look_39 : decode cX12_look 39 = .ok (.if_icmp .ge 16, 3) := by decide +kernel
theorem dX12_look_42 : decode cX12_look 42 = .ok (.aload_n 0, 1) := by decide +kernel
theorem dX12_look_43 : decode cX12_look 43 = .ok (.getfield 151, 3) := by decide +kernel
theorem dX12_look_46 : decode cX12_look 46 = .ok (.iload_n 3, 1) := by decide +kernel
theorem dX12_look_47 : decode cX12_look 47 = .ok (.iconst 0, 1) := by decide +kernel
theorem dX12_look_48 : decode cX12_look 48 = .ok (.iastore, 1) := by decide +kernel
theorem dX12_look_49 : decode cX12_look 49 = .ok (.iinc 3 1, 3) := by decide +kernel
theorem dX12_look_52 : decode cX12_look 52 = .ok (.goto (-19), 3) := by decide +kernel
theorem dX12_look_55 : decode cX12_look 55 = .ok (.aload_n 0, 1) := by decide +kernel
theorem dX12_look_56 : decode cX12_look 56 = .ok (.invokevirtual 491, 3) := by decide +kernel
theorem dX12_look_59 : decode cX12_look 59 = .ok (.iconst 0, 1) := by decide +kernel
theorem dX12_look_60 : decode cX12_look 60 = .ok (.istore_n 3, 1) := by decide +kernel
theorem dX12_look_61 : decode cX12_look 61 = .ok (.iconst (-1), 1) := by decide +kernel
theorem dX12_look_62 : decode cX12_look 62 = .ok (.istore 4, 2) := by decide +kernel
theorem dX12_look_64 : decode cX12_look 64 = .ok (.iload 4, 2) := by decide +kernel
theorem dX12_look_66 : decode cX12_look 66 = .ok (.aload_n 0, 1) := by decide +kernel
theorem dX12_look_67 : decode cX12_look 67 = .ok (.getfield 362, 3) := by decide +kernel
theorem dX12_look_70 : decode cX12_look 70 = .ok (.if_icmp .ge 65, 3) := by decide +kernel
theorem dX12_look_73 : decode cX12_look 73 = .ok (.aload_n 0, 1) := by decide +kernel
theorem dX12_look_74 : decode cX12_look 74 = .ok (.iload 4, 2) := by decide +kernel
theorem dX12_look_76 : decode cX12_look 76 = .ok (.iload_n 1, 1) := by decide +kernel
theorem dX12_look_77 : decode cX12_look 77 = .ok (.invokevirtual 548, 3) := by decide +kernel
theorem dX12_look_80 : decode cX12_look 80 = .ok (.ifCond .eq 49, 3) := by decide +kernel
theorem dX12_look_83 : decode cX12_look 83 = .ok (.iinc 3 1, 3) := by decide +kernel
theorem dX12_look_86 : decode cX12_look 86 = .ok (.iconst 0, 1) := by decide +kernel
theorem dX12_look_87 : decode cX12_look 87 = .ok (.istore 5, 2) := by decide +kernel
theorem dX12_look_89 : decode cX12_look 89 = .ok (.iload 5, 2) := by decide +kernel
theorem dX12_look_91 : decode cX12_look 91 = .ok (.aload_n 0, 1) := by decide +kernel
theorem dX12_look_92 : decode cX12_look 92 = .ok (.getfield 9, 3) := by decide +kernel
theorem dX12_look_95 : decode cX12_look 95 = .ok (.iconst 3, 1) := by decide +kernel
theorem dX12_look_96 : decode cX12_look 96 = .ok (.iaload, 1) := by decide +kernel
theorem dX12_look_97 : decode cX12_look 97 = .ok (.if_icmp .ge 32, 3) := by decide +kernel
theorem dX12_look_100 : decode cX12_look 100 = .ok (.aload_n 0, 1) := by decide +kernel
theorem dX12_look_101 : decode cX12_look 101 = .ok (.getfield 151, 3) := by decide +kernel
theorem dX12_look_104 : decode cX12_look 104 = .ok (.iconst 5, 1) := by decide +kernel
theorem dX12_look_105 : decode cX12_look 105 = .ok (.iload 5, 2) := by decide +kernel
theorem dX12_look_107 : decode cX12_look 107 = .ok (.imul, 1) := by decide +kernel
theorem dX12_look_108 : decode cX12_look 108 = .ok (.aload_n 0, 1) := by decide +kernel
theorem dX12_look_109 : decode cX12_look 109 = .ok (.getfield 148, 3) := by decide +kernel
theorem dX12_look_112 : decode cX12_look 112 = .ok (.iload 5, 2) := by decide +kernel
theorem dX12_look_114 : decode cX12_look 114 = .ok (.iaload, 1) := by decide +kernel
theorem dX12_look_115 : decode cX12_look 115 = .ok (.iadd, 1) := by decide +kernel
theorem dX12_look_116 : decode cX12_look 116 = .ok (.iconst 1, 1) := by decide +kernel
theorem dX12_look_117 : decode cX12_look 117 = .ok (.iadd, 1) := by decide +kernel
theorem dX12_look_118 : decode cX12_look 118 = .ok (.dup2, 1) := by decide +kernel
theorem dX12_look_119 : decode cX12_look 119 = .ok (.iaload, 1) := by decide +kernel
theorem dX12_look_120 : decode cX12_look 120 = .ok (.iconst 1, 1) := by decide +kernel
theorem dX12_look_121 : decode cX12_look 121 = .ok (.iadd, 1) := by decide +kernel
theorem dX12_look_122 : decode cX12_look 122 = .ok (.iastore, 1) := by decide +kernel
theorem dX12_look_123 : decode cX12_look 123 = .ok (.iinc 5 1, 3) := by decide +kernel
theorem dX12_look_126 : decode cX12_look 126 = .ok (.goto (-37), 3) := by decide +kernel
theorem dX12_look_129 : decode cX12_look 129 = .ok (.iinc 4 1, 3) := by decide +kernel
theorem dX12_look_132 : decode cX12_look 132 = .ok (.goto (-68), 3) := by decide +kernel
theorem dX12_look_135 : decode cX12_look 135 = .ok (.bipush (-2), 2) := by decide +kernel
theorem dX12_look_137 : decode cX12_look 137 = .ok (.istore 4, 2) := by decide +kernel
theorem dX12_look_139 : decode cX12_look 139 = .ok (.bipush (-2), 2) := by decide +kernel
theorem dX12_look_141 : decode cX12_look 141 = .ok (.istore 5, 2) := by decide +kernel
theorem dX12_look_143 : decode cX12_look 143 = .ok (.iconst 0, 1) := by decide +kernel
theorem dX12_look_144 : decode cX12_look 144 = .ok (.istore 6, 2) := by decide +kernel
theorem dX12_look_146 : decode cX12_look 146 = .ok (.iload 6, 2) := by decide +kernel
theorem dX12_look_148 : decode cX12_look 148 = .ok (.aload_n 0, 1) := by decide +kernel
theorem dX12_look_149 : decode cX12_look 149 = .ok (.getfield 9, 3) := by decide +kernel
theorem dX12_look_152 : decode cX12_look 152 = .ok (.iconst 3, 1) := by decide +kernel
theorem dX12_look_153 : decode cX12_look 153 = .ok (.iaload, 1) := by decide +kernel
theorem dX12_look_154 : decode cX12_look 154 = .ok (.if_icmp .ge 87, 3) := by decide +kernel
theorem dX12_look_157 : decode cX12_look 157 = .ok (.iload_n 3, 1) := by decide +kernel
theorem dX12_look_158 : decode cX12_look 158 = .ok (.ifCond .le 83, 3) := by decide +kernel
theorem dX12_look_161 : decode cX12_look 161 = .ok (.iconst 0, 1) := by decide +kernel
theorem dX12_look_162 : decode cX12_look 162 = .ok (.istore 7, 2) := by decide +kernel
theorem dX12_look_164 : decode cX12_look 164 = .ok (.iconst 5, 1) := by decide +kernel
theorem dX12_look_165 : decode cX12_look 165 = .ok (.iload 6, 2) := by decide +kernel
theorem dX12_look_167 : decode cX12_look 167 = .ok (.imul, 1) := by decide +kernel
theorem dX12_look_168 : decode cX12_look 168 = .ok (.istore 8, 2) := by decide +kernel
theorem dX12_look_170 : decode cX12_look 170 = .ok (.iload 8, 2) := by decide +kernel
theorem dX12_look_172 : decode cX12_look 172 = .ok (.iconst 5, 1) := by decide +kernel
theorem dX12_look_173 : decode cX12_look 173 = .ok (.iload 6, 2) := by decide +kernel
theorem dX12_look_175 : decode cX12_look 175 = .ok (.iconst 1, 1) := by decide +kernel
theorem dX12_look_176 : decode cX12_look 176 = .ok (.iadd, 1) := by decide +kernel
theorem dX12_look_177 : decode cX12_look 177 = .ok (.imul, 1) := by decide +kernel
theorem dX12_look_178 : decode cX12_look 178 = .ok (.if_icmp .ge 35, 3) := by decide +kernel
theorem dX12_look_181 : decode cX12_look 181 = .ok (.aload_n 0, 1) := by decide +kernel
theorem dX12_look_182 : decode cX12_look 182 = .ok (.getfield 151, 3) := by decide +kernel
theorem dX12_look_185 : decode cX12_look 185 = .ok (.iload 8, 2) := by decide +kernel
theorem dX12_look_187 : decode cX12_look 187 = .ok (.iaload, 1) := by decide +kernel
theorem dX12_look_188 : decode cX12_look 188 = .ok (.iload 7, 2) := by decide +kernel
theorem dX12_look_190 : decode cX12_look 190 = .ok (.if_icmp .le 13, 3) := by decide +kernel
theorem dX12_look_193 : decode cX12_look 193 = .ok (.aload_n 0, 1) := by decide +kernel
theorem dX12_look_194 : decode cX12_look 194 = .ok (.getfield 151, 3) := by decide +kernel
theorem dX12_look_197 : decode cX12_look 197 = .ok (.iload 8, 2) := by decide +kernel
theorem dX12_look_199 : decode cX12_look 199 = .ok (.iaload, 1) := by decide +kernel
theorem dX12_look_200 : decode cX12_look 200 = .ok (.goto 5, 3) := by decide +kernel
theorem dX12_look_203 : decode cX12_look 203 = .ok (.iload 7, 2) := by decide +kernel
theorem dX12_look_205 : decode cX12_look 205 = .ok (.istore 7, 2) := by decide +kernel
theorem dX12_look_207 : decode cX12_look 207 = .ok (.iinc 8 1, 3) := by decide +kernel
theorem dX12_look_210 : decode cX12_look 210 = .ok (.goto (-40), 3) := by decide +kernel
theorem dX12_look_213 : decode cX12_look 213 = .ok (.iload 4, 2) := by decide +kernel
theorem dX12_look_215 : decode cX12_look 215 = .ok (.bipush (-2), 2) := by decide +kernel
theorem dX12_look_217 : decode cX12_look 217 = .ok (.if_icmp .eq 10, 3) := by decide +kernel
theorem dX12_look_220 : decode cX12_look 220 = .ok (.iload 7, 2) := by decide +kernel
theorem dX12_look_222 : decode cX12_look 222 = .ok (.iload 5, 2) := by decide +kernel
theorem dX12_look_224 : decode cX12_look 224 = .ok (.if_icmp .ge 11, 3) := by decide +kernel
theorem dX12_look_227 : decode cX12_look 227 = .ok (.iload 6, 2) := by decide +kernel
theorem dX12_look_229 : decode cX12_look 229 = .ok (.istore 4, 2) := by decide +kernel
theorem dX12_look_231 : decode cX12_look 231 = .ok (.iload 7, 2) := by decide +kernel
theorem dX12_look_233 : decode cX12_look 233 = .ok (.istore 5, 2) := by decide +kernel
theorem dX12_look_235 : decode cX12_look 235 = .ok (.iinc 6 1, 3) := by decide +kernel
theorem dX12_look_238 : decode cX12_look 238 = .ok (.goto (-92), 3) := by decide +kernel
theorem dX12_look_241 : decode cX12_look 241 = .ok (.iload_n 2, 1) := by decide +kernel
theorem dX12_look_242 : decode cX12_look 242 = .ok (.ifCond .ne 8, 3) := by decide +kernel
theorem dX12_look_245 : decode cX12_look 245 = .ok (.iload 4, 2) := by decide +kernel
theorem dX12_look_247 : decode cX12_look 247 = .ok (.goto 5, 3) := by decide +kernel
theorem dX12_look_250 : decode cX12_look 250 = .ok (.iload 5, 2) := by decide +kernel
theorem dX12_look_252 : decode cX12_look 252 = .ok (.ireturn, 1) := by decide +kernel
theorem dX12_seed_0 : decode cX12_seed 0 = .ok (.iload_n 1, 1) := by decide +kernel
theorem dX12_seed_1 : decode cX12_seed 1 = .ok (.ifCond .ge 5, 3) := by decide +kernel
theorem dX12_seed_4 : decode cX12_seed 4 = .ok (.iconst (-1), 1) := by decide +kernel
theorem dX12_seed_5 : decode cX12_seed 5 = .ok (.ireturn, 1) := by decide +kernel
theorem dX12_seed_6 : decode cX12_seed 6 = .ok (.aload_n 0, 1) := by decide +kernel
theorem dX12_seed_7 : decode cX12_seed 7 = .ok (.getfield 9, 3) := by decide +kernel
theorem dX12_seed_10 : decode cX12_seed 10 = .ok (.bipush 11, 2) := by decide +kernel
theorem dX12_seed_12 : decode cX12_seed 12 = .ok (.iaload, 1) := by decide +kernel
theorem dX12_seed_13 : decode cX12_seed 13 = .ok (.istore_n 2, 1) := by decide +kernel
theorem dX12_seed_14 : decode cX12_seed 14 = .ok (.aload_n 0, 1) := by decide +kernel
theorem dX12_seed_15 : decode cX12_seed 15 = .ok (.getfield 9, 3) := by decide +kernel
theorem dX12_seed_18 : decode cX12_seed 18 = .ok (.bipush 11, 2) := by decide +kernel
theorem dX12_seed_20 : decode cX12_seed 20 = .ok (.iload_n 1, 1) := by decide +kernel
theorem dX12_seed_21 : decode cX12_seed 21 = .ok (.iastore, 1) := by decide +kernel
theorem dX12_seed_22 : decode cX12_seed 22 = .ok (.iload_n 2, 1) := by decide +kernel
theorem dX12_seed_23 : decode cX12_seed 23 = .ok (.ireturn, 1) := by decide +kernel
theorem dX12_draws_0 : decode cX12_draws 0 = .ok (.aload_n 0, 1) := by decide +kernel
theorem dX12_draws_1 : decode cX12_draws 1 = .ok (.getfield 9, 3) := by decide +kernel
theorem dX12_draws_4 : decode cX12_draws 4 = .ok (.bipush 11, 2) := by decide +kernel
theorem dX12_draws_6 : decode cX12_draws 6 = .ok (.aload_n 0, 1) := by decide +kernel
theorem dX12_draws_7 : decode cX12_draws 7 = .ok (.getfield 9, 3) := by decide +kernel
theorem dX12_draws_10 : decode cX12_draws 10 = .ok (.bipush 11, 2) := by decide +kernel
theorem dX12_draws_12 : decode cX12_draws 12 = .ok (.iaload, 1) := by decide +kernel
theorem dX12_draws_13 : decode cX12_draws 13 = .ok (.i2l, 1) := by decide +kernel
theorem dX12_draws_14 : decode cX12_draws 14 = .ok (.ldc2_w 551, 3) := by decide +kernel
theorem dX12_draws_17 : decode cX12_draws 17 = .ok (.lmul, 1) := by decide +kernel
theorem dX12_draws_18 : decode cX12_draws 18 = .ok (.ldc2_w 553, 3) := by decide +kernel
theorem dX12_draws_21 : decode cX12_draws 21 = .ok (.ladd, 1) := by decide +kernel
theorem dX12_draws_22 : decode cX12_draws 22 = .ok (.ldc2_w 555, 3) := by decide +kernel
theorem dX12_draws_25 : decode cX12_draws 25 = .ok (.lrem, 1) := by decide +kernel
theorem dX12_draws_26 : decode cX12_draws 26 = .ok (.l2i, 1) := by decide +kernel
theorem dX12_draws_27 : decode cX12_draws 27 = .ok (.iastore, 1) := by decide +kernel
theorem dX12_draws_28 : decode cX12_draws 28 = .ok (.aload_n 0, 1) := by decide +kernel
theorem dX12_draws_29 : decode cX12_draws 29 = .ok (.getfield 9, 3) := by decide +kernel
theorem dX12_draws_32 : decode cX12_draws 32 = .ok (.bipush 11, 2) := by decide +kernel
theorem dX12_draws_34 : decode cX12_draws 34 = .ok (.iaload, 1) := by decide +kernel
theorem dX12_draws_35 : decode cX12_draws 35 = .ok (.ldc_w 557, 3) := by decide +kernel
theorem dX12_draws_38 : decode cX12_draws 38 = .ok (.idiv, 1) := by decide +kernel
theorem dX12_draws_39 : decode cX12_draws 39 = .ok (.iload_n 1, 1) := by decide +kernel
theorem dX12_draws_40 : decode cX12_draws 40 = .ok (.irem, 1) := by decide +kernel
theorem dX12_draws_41 : decode cX12_draws 41 = .ok (.ireturn, 1) := by decide +kernel
theorem dX12_drawsCoat_0 : decode cX12_drawsCoat 0 = .ok (.aload_n 0, 1) := by decide +kernel
theorem dX12_drawsCoat_1 : decode cX12_drawsCoat 1 = .ok (.getfield 9, 3) := by decide +kernel
theorem dX12_drawsCoat_4 : decode cX12_drawsCoat 4 = .ok (.iconst 5, 1) := by decide +kernel
theorem dX12_drawsCoat_5 : decode cX12_drawsCoat 5 = .ok (.iaload, 1) := by decide +kernel
theorem dX12_drawsCoat_6 : decode cX12_drawsCoat 6 = .ok (.ifCond .eq 12, 3) := by decide +kernel
theorem dX12_drawsCoat_9 : decode cX12_drawsCoat 9 = .ok (.aload_n 0, 1) := by decide +kernel
theorem dX12_drawsCoat_10 : decode cX12_drawsCoat 10 = .ok (.getfield 9, 3) := by decide +kernel
theorem dX12_drawsCoat_13 : decode cX12_drawsCoat 13 = .ok (.iconst 4, 1) := by decide +kernel
theorem dX12_drawsCoat_14 : decode cX12_drawsCoat 14 = .ok (.iaload, 1) := by decide +kernel
theorem dX12_drawsCoat_15 : decode cX12_drawsCoat 15 = .ok (.ifCond .ne 5, 3) := by decide +kernel
theorem dX12_drawsCoat_18 : decode cX12_drawsCoat 18 = .ok (.iconst 0, 1) := by decide +kernel
theorem dX12_drawsCoat_19 : decode cX12_drawsCoat 19 = .ok (.ireturn, 1) := by decide +kernel
theorem dX12_drawsCoat_20 : decode cX12_drawsCoat 20 = .ok (.aload_n 0, 1) := by decide +kernel
theorem dX12_drawsCoat_21 : decode cX12_drawsCoat 21 = .ok (.aload_n 0, 1) := by decide +kernel
theorem dX12_drawsCoat_22 : decode cX12_drawsCoat 22 = .ok (.getfield 9, 3) := by decide +kernel
theorem dX12_drawsCoat_25 : decode cX12_drawsCoat 25 = .ok (.iconst 5, 1) := by decide +kernel
theorem dX12_drawsCoat_26 : decode cX12_drawsCoat 26 = .ok (.iaload, 1) := by decide +kernel
theorem dX12_drawsCoat_27 : decode cX12_drawsCoat 27 = .ok (.invokevirtual 558, 3) := by decide +kernel
theorem dX12_drawsCoat_30 : decode cX12_drawsCoat 30 = .ok (.istore_n 1, 1) := by decide +kernel
theorem dX12_drawsCoat_31 : decode cX12_drawsCoat 31 = .ok (.aload_n 0, 1) := by decide +kernel
theorem dX12_drawsCoat_32 : decode cX12_drawsCoat 32 = .ok (.aload_n 0, 1) := by decide +kernel
theorem dX12_drawsCoat_33 : decode cX12_drawsCoat 33 = .ok (.getfield 9, 3) := by decide +kernel
theorem dX12_drawsCoat_36 : decode cX12_drawsCoat 36 = .ok (.iconst 4, 1) := by decide +kernel
theorem dX12_drawsCoat_37 : decode cX12_drawsCoat 37 = .ok (.iaload, 1) := by decide +kernel
theorem dX12_drawsCoat_38 : decode cX12_drawsCoat 38 = .ok (.invokevirtual 558, 3) := by decide +kernel
theorem dX12_drawsCoat_41 : decode cX12_drawsCoat 41 = .ok (.istore_n 2, 1) := by decide +kernel
theorem dX12_drawsCoat_42 : decode cX12_drawsCoat 42 = .ok (.aload_n 0, 1) := by decide +kernel
theorem dX12_drawsCoat_43 : decode cX12_drawsCoat 43 = .ok (.iload_n 2, 1) := by decide +kernel
theorem dX12_drawsCoat_44 : decode cX12_drawsCoat 44 = .ok (.iload_n 1, 1) := by decide +kernel
theorem dX12_drawsCoat_45 : decode cX12_drawsCoat 45 = .ok (.invokevirtual 435, 3) := by decide +kernel
theorem dX12_drawsCoat_48 : decode cX12_drawsCoat 48 = .ok (.ifCond .ne 5, 3) := by decide +kernel
theorem dX12_drawsCoat_51 : decode cX12_drawsCoat 51 = .ok (.iconst 0, 1) := by decide +kernel
theorem dX12_drawsCoat_52 : decode cX12_drawsCoat 52 = .ok (.ireturn, 1) := by decide +kernel
theorem dX12_drawsCoat_53 : decode cX12_drawsCoat 53 = .ok (.aload_n 0, 1) := by decide +kernel
theorem dX12_drawsCoat_54 : decode cX12_drawsCoat 54 = .ok (.iload_n 2, 1) := by decide +kernel
theorem dX12_drawsCoat_55 : decode cX12_drawsCoat 55 = .ok (.iload_n 1, 1) := by decide +kernel
theorem dX12_drawsCoat_56 : decode cX12_drawsCoat 56 = .ok (.invokevirtual 448, 3) := by decide +kernel
theorem dX12_drawsCoat_59 : decode cX12_drawsCoat 59 = .ok (.aload_n 0, 1) := by decide +kernel
theorem dX12_drawsCoat_60 : decode cX12_drawsCoat 60 = .ok (.getfield 22, 3) := by decide +kernel
theorem dX12_drawsCoat_63 : decode cX12_drawsCoat 63 = .ok (.iload_n 1, 1) := by decide +kernel
theorem dX12_drawsCoat_64 : decode cX12_drawsCoat 64 = .ok (.dup2, 1) := by decide +kernel
theorem dX12_drawsCoat_65 : decode cX12_drawsCoat 65 = .ok (.iaload, 1) := by decide +kernel
theorem dX12_drawsCoat_66 : decode cX12_drawsCoat 66 = .ok (.aload_n 0, 1) := by decide +kernel
theorem dX12_drawsCoat_67 : decode cX12_drawsCoat 67 = .ok (.getfield 9, 3) := by decide +kernel
theorem dX12_drawsCoat_70 : decode cX12_drawsCoat 70 = .ok (.iconst 2, 1) := by decide +kernel
theorem dX12_drawsCoat_71 : decode cX12_drawsCoat 71 = .ok (.iaload, 1) := by decide +kernel
theorem dX12_drawsCoat_72 : decode cX12_drawsCoat 72 = .ok (.isub, 1) := by decide +kernel
theorem dX12_drawsCoat_73 : decode cX12_drawsCoat 73 = .ok (.iastore, 1) := by decide +kernel
theorem dX12_drawsCoat_74 : decode cX12_drawsCoat 74 = .ok (.iconst 1, 1) := by decide +kernel
theorem dX12_drawsCoat_75 : decode cX12_drawsCoat 75 = .ok (.ireturn, 1) := by decide +kernel
theorem dX12_years_0 : decode cX12_years 0 = .ok (.aload_n 0, 1) := by decide +kernel
theorem dX12_years_1 : decode cX12_years 1 = .ok (.invokevirtual 429, 3) := by decide +kernel
theorem dX12_years_4 : decode cX12_years 4 = .ok (.ifCond .eq 37, 3) := by decide +kernel
theorem dX12_years_7 : decode cX12_years 7 = .ok (.iload_n 1, 1) := by decide +kernel
theorem dX12_years_8 : decode cX12_years 8 = .ok (.i2l, 1) := by decide +kernel
theorem dX12_years_9 : decode cX12_years 9 = .ok (.lconst 1, 1) := by decide +kernel
theorem dX12_years_10 : decode cX12_years 10 = .ok (.ldc2_w 561, 3) := by decide +kernel
theorem dX12_years_13 : decode cX12_years 13 = .ok (.invokestatic 164, 3) := by decide +kernel
theorem dX12_years_16 : decode cX12_years 16 = .ok (.ifCond .eq 25, 3) := by decide +kernel
theorem dX12_years_19 : decode cX12_years 19 = .ok (.iload_n 2, 1) := by decide +kernel
theorem dX12_years_20 : decode cX12_years 20 = .ok (.i2l, 1) := by decide +kernel
theorem dX12_years_21 : decode cX12_years 21 = .ok (.lconst 1, 1) := by decide +kernel
theorem dX12_years_22 : decode cX12_years 22 = .ok (.ldc2_w 489, 3) := by decide +kernel
theorem dX12_years_25 : decode cX12_years 25 = .ok (.invokestatic 164, 3) := by decide +kernel
theorem dX12_years_28 : decode cX12_years 28 = .ok (.ifCond .eq 13, 3) := by decide +kernel
theorem dX12_years_31 : decode cX12_years 31 = .ok (.iload_n 3, 1) := by decide +kernel
theorem dX12_years_32 : decode cX12_years 32 = .ok (.i2l, 1) := by decide +kernel
theorem dX12_years_33 : decode cX12_years 33 = .ok (.lconst 0, 1) := by decide +kernel
theorem dX12_years_34 : decode cX12_years 34 = .ok (.lconst 1, 1) := by decide +kernel
theorem dX12_years_35 : decode cX12_years 35 = .ok (.invokestatic 164, 3) := by decide +kernel
theorem dX12_years_38 : decode cX12_years 38 = .ok (.ifCond .ne 5, 3) := by decide +kernel
theorem dX12_years_41 : decode cX12_years 41 = .ok (.iconst (-1), 1) := by decide +kernel
theorem dX12_years_42 : decode cX12_years 42 = .ok (.ireturn, 1) := by decide +kernel
theorem dX12_years_43 : decode cX12_years 43 = .ok (.aload_n 0, 1) := by decide +kernel
theorem dX12_years_44 : decode cX12_years 44 = .ok (.getfield 9, 3) := by decide +kernel
theorem dX12_years_47 : decode cX12_years 47 = .ok (.bipush 11, 2) := by decide +kernel
theorem dX12_years_49 : decode cX12_years 49 = .ok (.iaload, 1) := by decide +kernel
theorem dX12_years_50 : decode cX12_years 50 = .ok (.istore 4, 2) := by decide +kernel
theorem dX12_years_52 : decode cX12_years 52 = .ok (.iload 4, 2) := by decide +kernel
theorem dX12_years_54 : decode cX12_years 54 = .ok (.istore 5, 2) := by decide +kernel
theorem dX12_years_56 : decode cX12_years 56 = .ok (.iconst 0, 1) := by decide +kernel
theorem dX12_years_57 : decode cX12_years 57 = .ok (.istore 6, 2) := by decide +kernel
theorem dX12_years_59 : decode cX12_years 59 = .ok (.aload_n 0, 1) := by decide +kernel
theorem dX12_years_60 : decode cX12_years 60 = .ok (.invokevirtual 491, 3) := by decide +kernel
theorem dX12_years_63 : decode cX12_years 63 = .ok (.iconst 0, 1) := by decide +kernel
theorem dX12_years_64 : decode cX12_years 64 = .ok (.istore 7, 2) := by decide +kernel
theorem dX12_years_66 : decode cX12_years 66 = .ok (.iload 7, 2) := by decide +kernel
theorem dX12_years_68 : decode cX12_years 68 = .ok (.iload_n 1, 1) := by decide +kernel
theorem dX12_years_69 : decode cX12_years 69 = .ok (.if_icmp .ge 59, 3) := by decide +kernel
theorem dX12_years_72 : decode cX12_years 72 = .ok (.aload_n 0, 1) := by decide +kernel
theorem dX12_years_73 : decode cX12_years 73 = .ok (.getfield 9, 3) := by decide +kernel
theorem dX12_years_76 : decode cX12_years 76 = .ok (.bipush 11, 2) := by decide +kernel
theorem dX12_years_78 : decode cX12_years 78 = .ok (.iload 5, 2) := by decide +kernel
theorem dX12_years_80 : decode cX12_years 80 = .ok (.iastore, 1) := by decide +kernel
theorem dX12_years_81 : decode cX12_years 81 = .ok (.iconst 0, 1) := by decide +kernel
theorem dX12_years_82 : decode cX12_years 82 = .ok (.istore 8, 2) := by decide +kernel
theorem dX12_years_84 : decode cX12_years 84 = .ok (.iload 8, 2) := by decide +kernel
theorem dX12_years_86 : decode cX12_years 86 = .ok (.iload_n 2, 1) := by decide +kernel
theorem dX12_years_87 : decode cX12_years 87 = .ok (.if_icmp .ge 22, 3) := by decide +kernel
theorem dX12_years_90 : decode cX12_years 90 = .ok (.iload 6, 2) := by decide +kernel
theorem dX12_years_92 : decode cX12_years 92 = .ok (.aload_n 0, 1) := by decide +kernel
theorem dX12_years_93 : decode cX12_years 93 = .ok (.invokevirtual 563, 3) := by decide +kernel
theorem dX12_years_96 : decode cX12_years 96 = .ok (.iadd, 1) := by decide +kernel
theorem dX12_years_97 : decode cX12_years 97 = .ok (.istore 6, 2) := by decide +kernel
theorem dX12_years_99 : decode cX12_years 99 = .ok (.aload_n 0, 1) := by decide +kernel
theorem dX12_years_100 : decode cX12_years 100 = .ok (.invokevirtual 457, 3) := by decide +kernel
theorem dX12_years_103 : decode cX12_years 103 = .ok (.iinc 8 1, 3) := by decide +kernel
theorem dX12_years_106 : decode cX12_years 106 = .ok (.goto (-22), 3) := by decide +kernel
theorem dX12_years_109 : decode cX12_years 109 = .ok (.aload_n 0, 1) := by decide +kernel
theorem dX12_years_110 : decode cX12_years 110 = .ok (.getfield 9, 3) := by decide +kernel
theorem dX12_years_113 : decode cX12_years 113 = .ok (.bipush 11, 2) := by decide +kernel
theorem dX12_years_115 : decode cX12_years 115 = .ok (.iaload, 1) := by decide +kernel
theorem dX12_years_116 : decode cX12_years 116 = .ok (.istore 5, 2) := by decide +kernel
theorem dX12_years_118 : decode cX12_years 118 = .ok (.aload_n 0, 1) := by decide +kernel
theorem dX12_years_119 : decode cX12_years 119 = .ok (.invokevirtual 497, 3) := by decide +kernel
theorem dX12_years_122 : decode cX12_years 122 = .ok (.iinc 7 1, 3) := by decide +kernel
theorem dX12_years_125 : decode cX12_years 125 = .ok (.goto (-59), 3) := by decide +kernel
theorem dX12_years_128 : decode cX12_years 128 = .ok (.aload_n 0, 1) := by decide +kernel
theorem dX12_years_129 : decode cX12_years 129 = .ok (.getfield 9, 3) := by decide +kernel
theorem dX12_years_132 : decode cX12_years 132 = .ok (.bipush 11, 2) := by decide +kernel
theorem dX12_years_134 : decode cX12_years 134 = .ok (.iload 4, 2) := by decide +kernel
theorem dX12_years_136 : decode cX12_years 136 = .ok (.iastore, 1) := by decide +kernel
theorem dX12_years_137 : decode cX12_years 137 = .ok (.iconst 0, 1) := by decide +kernel
theorem dX12_years_138 : decode cX12_years 138 = .ok (.istore 7, 2) := by decide +kernel
theorem dX12_years_140 : decode cX12_years 140 = .ok (.iconst 0, 1) := by decide +kernel
theorem dX12_years_141 : decode cX12_years 141 = .ok (.istore 8, 2) := by decide +kernel
theorem dX12_years_143 : decode cX12_years 143 = .ok (.iload 8, 2) := by decide +kernel
theorem dX12_years_145 : decode cX12_years 145 = .ok (.iconst 4, 1) := by decide +kernel
theorem dX12_years_146 : decode cX12_years 146 = .ok (.if_icmp .ge 21, 3) := by decide +kernel
theorem dX12_years_149 : decode cX12_years 149 = .ok (.iload 7, 2) := by decide +kernel
theorem dX12_years_151 : decode cX12_years 151 = .ok (.aload_n 0, 1) := by decide +kernel
theorem dX12_years_152 : decode cX12_years 152 = .ok (.getfield 127, 3) := by decide +kernel
theorem dX12_years_155 : decode cX12_years 155 = .ok (.iload 8, 2) := by decide +kernel
theorem dX12_years_157 : decode cX12_years 157 = .ok (.iaload, 1) := by decide +kernel
theorem dX12_years_158 : decode cX12_years 158 = .ok (.iadd, 1) := by decide +kernel
theorem dX12_years_159 : decode cX12_years 159 = .ok (.istore 7, 2) := by decide +kernel
theorem dX12_years_161 : decode cX12_years 161 = .ok (.iinc 8 1, 3) := by decide +kernel
theorem dX12_years_164 : decode cX12_years 164 = .ok (.goto (-21), 3) := by decide +kernel
theorem dX12_years_167 : decode cX12_years 167 = .ok (.iload_n 3, 1) := by decide +kernel
theorem dX12_years_168 : decode cX12_years 168 = .ok (.ifCond .ne 8, 3) := by decide +kernel
theorem dX12_years_171 : decode cX12_years 171 = .ok (.iload 6, 2) := by decide +kernel
theorem dX12_years_173 : decode cX12_years 173 = .ok (.goto 5, 3) := by decide +kernel
theorem dX12_years_176 : decode cX12_years 176 = .ok (.iload 7, 2) := by decide +kernel
theorem dX12_years_178 : decode cX12_years 178 = .ok (.ireturn, 1) := by decide +kernel
theorem dX12_wetCells_0 : decode cX12_wetCells 0 = .ok (.iconst 0, 1) := by decide +kernel
theorem dX12_wetCells_1 : decode cX12_wetCells 1 = .ok (.istore_n 1, 1) := by decide +kernel
theorem dX12_wetCells_2 : decode cX12_wetCells 2 = .ok (.iconst 0, 1) := by decide +kernel
theorem dX12_wetCells_3 : decode cX12_wetCells 3 = .ok (.istore_n 2, 1) := by decide +kernel
theorem dX12_wetCells_4 : decode cX12_wetCells 4 = .ok (.iload_n 2, 1) := by decide +kernel
theorem dX12_wetCells_5 : decode cX12_wetCells 5 = .ok (.aload_n 0, 1) := by decide +kernel
theorem dX12_wetCells_6 : decode cX12_wetCells 6 = .ok (.getfield 9, 3) := by decide +kernel
theorem dX12_wetCells_9 : decode cX12_wetCells 9 = .ok (.iconst 4, 1) := by decide +kernel
theorem dX12_wetCells_10 : decode cX12_wetCells 10 = .ok (.iaload, 1) := by decide +kernel
theorem dX12_wetCells_11 : decode cX12_wetCells 11 = .ok (.if_icmp .ge 27, 3) := by decide +kernel
theorem dX12_wetCells_14 : decode cX12_wetCells 14 = .ok (.iload_n 1, 1) := by decide +kernel
theorem dX12_wetCells_15 : decode cX12_wetCells 15 = .ok (.aload_n 0, 1) := by decide +kernel
theorem dX12_wetCells_16 : decode cX12_wetCells 16 = .ok (.iload_n 2, 1) := by decide +kernel
theorem dX12_wetCells_17 : decode cX12_wetCells 17 = .ok (.invokevirtual 414, 3) := by decide +kernel
theorem dX12_wetCells_20 : decode cX12_wetCells 20 = .ok (.ifCond .eq 9, 3) := by decide +kernel
theorem dX12_wetCells_23 : decode cX12_wetCells 23 = .ok (.iconst 1, 1) := by decide +kernel
theorem dX12_wetCells_24 : decode cX12_wetCells 24 = .ok (.iload_n 2, 1) := by decide +kernel
theorem dX12_wetCells_25 : decode cX12_wetCells 25 = .ok (.ishl, 1) := by decide +kernel
theorem dX12_wetCells_26 : decode cX12_wetCells 26 = .ok (.goto 4, 3) := by decide +kernel
theorem dX12_wetCells_29 : decode cX12_wetCells 29 = .ok (.iconst 0, 1) := by decide +kernel
theorem dX12_wetCells_30 : decode cX12_wetCells 30 = .ok (.ior, 1) := by decide +kernel
theorem dX12_wetCells_31 : decode cX12_wetCells 31 = .ok (.istore_n 1, 1) := by decide +kernel
theorem dX12_wetCells_32 : decode cX12_wetCells 32 = .ok (.iinc 2 1, 3) := by decide +kernel
theorem dX12_wetCells_35 : decode cX12_wetCells 35 = .ok (.goto (-31), 3) := by decide +kernel
theorem dX12_wetCells_38 : decode cX12_wetCells 38 = .ok (.iload_n 1, 1) := by decide +kernel
theorem dX12_wetCells_39 : decode cX12_wetCells 39 = .ok (.ireturn, 1) := by decide +kernel
theorem dX12_count_0 : decode cX12_count 0 = .ok (.iload_n 1, 1) := by decide +kernel
theorem dX12_count_1 : decode cX12_count 1 = .ok (.tableswitch 189 0 15 #[79, 86, 93, 100, 107, 114, 121, 129, 134, 142, 150, 155, 163, 171, 176, 184], 79) := by decide +kernel
theorem dX12_count_80 : decode cX12_count 80 = .ok (.aload_n 0, 1) := by decide +kernel
theorem dX12_count_81 : decode cX12_count 81 = .ok (.getfield 9, 3) := by decide +kernel
theorem dX12_count_84 : decode cX12_count 84 = .ok (.iconst 0, 1) := by decide +kernel
theorem dX12_count_85 : decode cX12_count 85 = .ok (.iaload, 1) := by decide +kernel
theorem dX12_count_86 : decode cX12_count 86 = .ok (.ireturn, 1) := by decide +kernel
theorem dX12_count_87 : decode cX12_count 87 = .ok (.aload_n 0, 1) := by decide +kernel
theorem dX12_count_88 : decode cX12_count 88 = .ok (.getfield 9, 3) := by decide +kernel
theorem dX12_count_91 : decode cX12_count 91 = .ok (.iconst 1, 1) := by decide +kernel
theorem dX12_count_92 : decode cX12_count 92 = .ok (.iaload, 1) := by decide +kernel
theorem dX12_count_93 : decode cX12_count 93 = .ok (.ireturn, 1) := by decide +kernel
theorem dX12_count_94 : decode cX12_count 94 = .ok (.aload_n 0, 1) := by decide +kernel
theorem dX12_count_95 : decode cX12_count 95 = .ok (.getfield 9, 3) := by decide +kernel
theorem dX12_count_98 : decode cX12_count 98 = .ok (.iconst 2, 1) := by decide +kernel
theorem dX12_count_99 : decode cX12_count 99 = .ok (.iaload, 1) := by decide +kernel
theorem dX12_count_100 : decode cX12_count 100 = .ok (.ireturn, 1) := by decide +kernel
theorem dX12_count_101 : decode cX12_count 101 = .ok (.aload_n 0, 1) := by decide +kernel
theorem dX12_count_102 : decode cX12_count 102 = .ok (.getfield 9, 3) := by decide +kernel
theorem dX12_count_105 : decode cX12_count 105 = .ok (.iconst 3, 1) := by decide +kernel
theorem dX12_count_106 : decode cX12_count 106 = .ok (.iaload, 1) := by decide +kernel
theorem dX12_count_107 : decode cX12_count 107 = .ok (.ireturn, 1) := by decide +kernel
theorem dX12_count_108 : decode cX12_count 108 = .ok (.aload_n 0, 1) := by decide +kernel
theorem dX12_count_109 : decode cX12_count 109 = .ok (.getfield 9, 3) := by decide +kernel
theorem dX12_count_112 : decode cX12_count 112 = .ok (.iconst 4, 1) := by decide +kernel
theorem dX12_count_113 : decode cX12_count 113 = .ok (.iaload, 1) := by decide +kernel
theorem dX12_count_114 : decode cX12_count 114 = .ok (.ireturn, 1) := by decide +kernel
theorem dX12_count_115 : decode cX12_count 115 = .ok (.aload_n 0, 1) := by decide +kernel
theorem dX12_count_116 : decode cX12_count 116 = .ok (.getfield 9, 3) := by decide +kernel
theorem dX12_count_119 : decode cX12_count 119 = .ok (.iconst 5, 1) := by decide +kernel
theorem dX12_count_120 : decode cX12_count 120 = .ok (.iaload, 1) := by decide +kernel
theorem dX12_count_121 : decode cX12_count 121 = .ok (.ireturn, 1) := by decide +kernel
theorem dX12_count_122 : decode cX12_count 122 = .ok (.aload_n 0, 1) := by decide +kernel
theorem dX12_count_123 : decode cX12_count 123 = .ok (.getfield 9, 3) := by decide +kernel
theorem dX12_count_126 : decode cX12_count 126 = .ok (.bipush 6, 2) := by decide +kernel
theorem dX12_count_128 : decode cX12_count 128 = .ok (.iaload, 1) := by decide +kernel
theorem dX12_count_129 : decode cX12_count 129 = .ok (.ireturn, 1) := by decide +kernel
theorem dX12_count_130 : decode cX12_count 130 = .ok (.aload_n 0, 1) := by decide +kernel
theorem dX12_count_131 : decode cX12_count 131 = .ok (.getfield 362, 3) := by decide +kernel
theorem dX12_count_134 : decode cX12_count 134 = .ok (.ireturn, 1) := by decide +kernel
theorem dX12_count_135 : decode cX12_count 135 = .ok (.aload_n 0, 1) := by decide +kernel
theorem dX12_count_136 : decode cX12_count 136 = .ok (.getfield 9, 3) := by decide +kernel
theorem dX12_count_139 : decode cX12_count 139 = .ok (.bipush 12, 2) := by decide +kernel
theorem dX12_count_141 : decode cX12_count 141 = .ok (.iaload, 1) := by decide +kernel
theorem dX12_count_142 : decode cX12_count 142 = .ok (.ireturn, 1) := by decide +kernel
theorem dX12_count_143 : decode cX12_count 143 = .ok (.aload_n 0, 1) := by decide +kernel
theorem dX12_count_144 : decode cX12_count 144 = .ok (.getfield 9, 3) := by decide +kernel
theorem dX12_count_147 : decode cX12_count 147 = .ok (.bipush 9, 2) := by decide +kernel
theorem dX12_count_149 : decode cX12_count 149 = .ok (.iaload, 1) := by decide +kernel
theorem dX12_count_150 : decode cX12_count 150 = .ok (.ireturn, 1) := by decide +kernel
theorem dX12_count_151 : decode cX12_count 151 = .ok (.aload_n 0, 1) := by decide +kernel
theorem dX12_count_152 : decode cX12_count 152 = .ok (.invokevirtual 566, 3) := by decide +kernel
theorem dX12_count_155 : decode cX12_count 155 = .ok (.ireturn, 1) := by decide +kernel
theorem dX12_count_156 : decode cX12_count 156 = .ok (.aload_n 0, 1) := by decide +kernel
theorem dX12_count_157 : decode cX12_count 157 = .ok (.getfield 9, 3) := by decide +kernel
theorem dX12_count_160 : decode cX12_count 160 = .ok (.bipush 8, 2) := by decide +kernel
theorem dX12_count_162 : decode cX12_count 162 = .ok (.iaload, 1) := by decide +kernel
theorem dX12_count_163 : decode cX12_count 163 = .ok (.ireturn, 1) := by decide +kernel
theorem dX12_count_164 : decode cX12_count 164 = .ok (.aload_n 0, 1) := by decide +kernel
theorem dX12_count_165 : decode cX12_count 165 = .ok (.getfield 9, 3) := by decide +kernel
theorem dX12_count_168 : decode cX12_count 168 = .ok (.bipush 10, 2) := by decide +kernel
theorem dX12_count_170 : decode cX12_count 170 = .ok (.iaload, 1) := by decide +kernel
theorem dX12_count_171 : decode cX12_count 171 = .ok (.ireturn, 1) := by decide +kernel
theorem dX12_count_172 : decode cX12_count 172 = .ok (.aload_n 0, 1) := by decide +kernel
theorem dX12_count_173 : decode cX12_count 173 = .ok (.getfield 349, 3) := by decide +kernel
theorem dX12_count_176 : decode cX12_count 176 = .ok (.ireturn, 1) := by decide +kernel
theorem dX12_count_177 : decode cX12_count 177 = .ok (.aload_n 0, 1) := by decide +kernel
theorem dX12_count_178 : decode cX12_count 178 = .ok (.getfield 9, 3) := by decide +kernel
theorem dX12_count_181 : decode cX12_count 181 = .ok (.bipush 11, 2) := by decide +kernel
theorem dX12_count_183 : decode cX12_count 183 = .ok (.iaload, 1) := by decide +kernel
theorem dX12_count_184 : decode cX12_count 184 = .ok (.ireturn, 1) := by decide +kernel
theorem dX12_count_185 : decode cX12_count 185 = .ok (.aload_n 0, 1) := by decide +kernel
theorem dX12_count_186 : decode cX12_count 186 = .ok (.getfield 168, 3) := by decide +kernel
theorem dX12_count_189 : decode cX12_count 189 = .ok (.ireturn, 1) := by decide +kernel
theorem dX12_count_190 : decode cX12_count 190 = .ok (.iconst (-1), 1) := by decide +kernel
theorem dX12_count_191 : decode cX12_count 191 = .ok (.ireturn, 1) := by decide +kernel
theorem dX12_carryRow_0 : decode cX12_carryRow 0 = .ok (.iconst 0, 1) := by decide +kernel
theorem dX12_carryRow_1 : decode cX12_carryRow 1 = .ok (.istore_n 2, 1) := by decide +kernel
theorem dX12_carryRow_2 : decode cX12_carryRow 2 = .ok (.iload_n 2, 1) := by decide +kernel
theorem dX12_carryRow_3 : decode cX12_carryRow 3 = .ok (.aload_n 1, 1) := by decide +kernel
theorem dX12_carryRow_4 : decode cX12_carryRow 4 = .ok (.arraylength, 1) := by decide +kernel
theorem dX12_carryRow_5 : decode cX12_carryRow 5 = .ok (.if_icmp .ge 53, 3) := by decide +kernel
theorem dX12_carryRow_8 : decode cX12_carryRow 8 = .ok (.aload_n 0, 1) := by decide +kernel
theorem dX12_carryRow_9 : decode cX12_carryRow 9 = .ok (.getfield 569, 3) := by decide +kernel
theorem dX12_carryRow_12 : decode cX12_carryRow 12 = .ok (.ifCond .eq 18, 3) := by decide +kernel
theorem dX12_carryRow_15 : decode cX12_carryRow 15 = .ok (.aload_n 1, 1) := by decide +kernel
theorem dX12_carryRow_16 : decode cX12_carryRow 16 = .ok (.iload_n 2, 1) := by decide +kernel
theorem dX12_carryRow_17 : decode cX12_carryRow 17 = .ok (.aload_n 0, 1) := by decide +kernel
theorem dX12_carryRow_18 : decode cX12_carryRow 18 = .ok (.getfield 154, 3) := by decide +kernel
theorem dX12_carryRow_21 : decode cX12_carryRow 21 = .ok (.aload_n 0, 1) := by decide +kernel
theorem dX12_carryRow_22 : decode cX12_carryRow 22 = .ok (.getfield 572, 3) := by decide +kernel
theorem dX12_carryRow_25 : decode cX12_carryRow 25 = .ok (.iaload, 1) := by decide +kernel
theorem dX12_carryRow_26 : decode cX12_carryRow 26 = .ok (.iastore, 1) := by decide +kernel
theorem dX12_carryRow_27 : decode cX12_carryRow 27 = .ok (.goto 15, 3) := by decide +kernel
theorem dX12_carryRow_30 : decode cX12_carryRow 30 = .ok (.aload_n 0, 1) := by decide +kernel
theorem dX12_carryRow_31 : decode cX12_carryRow 31 = .ok (.getfield 154, 3) := by decide +kernel
theorem dX12_carryRow_34 : decode cX12_carryRow 34 = .ok (.aload_n 0, 1) := by decide +kernel
theorem dX12_carryRow_35 : decode cX12_carryRow 35 = .ok (.getfield 572, 3) := by decide +kernel
theorem dX12_carryRow_38 : decode cX12_carryRow 38 = .ok (.aload_n 1, 1) := by decide +kernel
theorem dX12_carryRow_39 : decode cX12_carryRow 39 = .ok (.iload_n 2, 1) := by decide +kernel
theorem dX12_carryRow_40 : decode cX12_carryRow 40 = .ok (.iaload, 1) := by decide +kernel
theorem dX12_carryRow_41 : decode cX12_carryRow 41 = .ok (.iastore, 1) := by decide +kernel
theorem dX12_carryRow_42 : decode cX12_carryRow 42 = .ok (.aload_n 0, 1) := by decide +kernel
theorem dX12_carryRow_43 : decode cX12_carryRow 43 = .ok (.dup, 1) := by decide +kernel
theorem dX12_carryRow_44 : decode cX12_carryRow 44 = .ok (.getfield 572, 3) := by decide +kernel
theorem dX12_carryRow_47 : decode cX12_carryRow 47 = .ok (.iconst 1, 1) := by decide +kernel
theorem dX12_carryRow_48 : decode cX12_carryRow 48 = .ok (.iadd, 1) := by decide +kernel
theorem dX12_carryRow_49 : decode cX12_carryRow 49 = .ok (.putfield 572, 3) := by decide +kernel
theorem dX12_carryRow_52 : decode cX12_carryRow 52 = .ok (.iinc 2 1, 3) := by decide +kernel
theorem dX12_carryRow_55 : decode cX12_carryRow 55 = .ok (.goto (-53), 3) := by decide +kernel
theorem dX12_carryRow_58 : decode cX12_carryRow 58 = .ok (.return_, 1) := by decide +kernel
theorem dX12_carriesAll_0 : decode cX12_carriesAll 0 = .ok (.aload_n 0, 1) := by decide +kernel
theorem dX12_carriesAll_1 : decode cX12_carriesAll 1 = .ok (.sipush 4100, 3) := by decide +kernel
theorem dX12_carriesAll_4 : decode cX12_carriesAll 4 = .ok (.iload_n 1, 1) := by decide +kernel
theorem dX12_carriesAll_5 : decode cX12_carriesAll 5 = .ok (.imul, 1) := by decide +kernel
theorem dX12_carriesAll_6 : decode cX12_carriesAll 6 = .ok (.putfield 572, 3) := by decide +kernel
theorem dX12_carriesAll_9 : decode cX12_carriesAll 9 = .ok (.aload_n 0, 1) := by decide +kernel
theorem dX12_carriesAll_10 : decode cX12_carriesAll 10 = .ok (.iload_n 2, 1) := by decide +kernel
theorem dX12_carriesAll_11 : decode cX12_carriesAll 11 = .ok (.putfield 569, 3) := by decide +kernel
theorem dX12_carriesAll_14 : decode cX12_carriesAll 14 = .ok (.aload_n 0, 1) := by decide +kernel
theorem dX12_carriesAll_15 : decode cX12_carriesAll 15 = .ok (.aload_n 0, 1) := by decide +kernel
theorem dX12_carriesAll_16 : decode cX12_carriesAll 16 = .ok (.getfield 9, 3) := by decide +kernel
theorem dX12_carriesAll_19 : decode cX12_carriesAll 19 = .ok (.invokevirtual 575, 3) := by decide +kernel
theorem dX12_carriesAll_22 : decode cX12_carriesAll 22 = .ok (.aload_n 0, 1) := by decide +kernel
theorem dX12_carriesAll_23 : decode cX12_carriesAll 23 = .ok (.aload_n 0, 1) := by decide +kernel
theorem dX12_carriesAll_24 : decode cX12_carriesAll 24 = .ok (.getfield 22, 3) := by decide +kernel
theorem dX12_carriesAll_27 : decode cX12_carriesAll 27 = .ok (.invokevirtual 575, 3) := by decide +kernel
theorem dX12_carriesAll_30 : decode cX12_carriesAll 30 = .ok (.aload_n 0, 1) := by decide +kernel
theorem dX12_carriesAll_31 : decode cX12_carriesAll 31 = .ok (.aload_n 0, 1) := by decide +kernel
theorem dX12_carriesAll_32 : decode cX12_carriesAll 32 = .ok (.getfield 31, 3) := by decide +kernel
theorem dX12_carriesAll_35 : decode cX12_carriesAll 35 = .ok (.invokevirtual 575, 3) := by decide +kernel
theorem dX12_carriesAll_38 : decode cX12_carriesAll 38 = .ok (.aload_n 0, 1) := by decide +kernel
theorem dX12_carriesAll_39 : decode cX12_carriesAll 39 = .ok (.aload_n 0, 1) := by decide +kernel
theorem dX12_carriesAll_40 : decode cX12_carriesAll 40 = .ok (.getfield 34, 3) := by decide +kernel
theorem dX12_carriesAll_43 : decode cX12_carriesAll 43 = .ok (.invokevirtual 575, 3) := by decide +kernel
theorem dX12_carriesAll_46 : decode cX12_carriesAll 46 = .ok (.aload_n 0, 1) := by decide +kernel
theorem dX12_carriesAll_47 : decode cX12_carriesAll 47 = .ok (.aload_n 0, 1) := by decide +kernel
theorem dX12_carriesAll_48 : decode cX12_carriesAll 48 = .ok (.getfield 37, 3) := by decide +kernel
theorem dX12_carriesAll_51 : decode cX12_carriesAll 51 = .ok (.invokevirtual 575, 3) := by decide +kernel
theorem dX12_carriesAll_54 : decode cX12_carriesAll 54 = .ok (.iload_n 1, 1) := by decide +kernel
theorem dX12_carriesAll_55 : decode cX12_carriesAll 55 = .ok (.iconst 4, 1) := by decide +kernel
theorem dX12_carriesAll_56 : decode cX12_carriesAll 56 = .ok (.if_icmp .ne 4, 3) := by decide +kernel
theorem dX12_carriesAll_59 : decode cX12_carriesAll 59 = .ok (.return_, 1) := by decide +kernel
theorem dX12_carriesAll_60 : decode cX12_carriesAll 60 = .ok (.aload_n 0, 1) := by decide +kernel
theorem dX12_carriesAll_61 : decode cX12_carriesAll 61 = .ok (.getfield 133, 3) := by decide +kernel
theorem dX12_carriesAll_64 : decode cX12_carriesAll 64 = .ok (.iconst 0, 1) := by decide +kernel
theorem dX12_carriesAll_65 : decode cX12_carriesAll 65 = .ok (.aload_n 0, 1) := by decide +kernel
theorem dX12_carriesAll_66 : decode cX12_carriesAll 66 = .ok (.getfield 349, 3) := by decide +kernel
theorem dX12_carriesAll_69 : decode cX12_carriesAll 69 = .ok (.iastore, 1) := by decide +kernel
theorem dX12_carriesAll_70 : decode cX12_carriesAll 70 = .ok (.aload_n 0, 1) := by decide +kernel
theorem dX12_carriesAll_71 : decode cX12_carriesAll 71 = .ok (.aload_n 0, 1) := by decide +kernel
theorem dX12_carriesAll_72 : decode cX12_carriesAll 72 = .ok (.getfield 133, 3) := by decide +kernel
theorem dX12_carriesAll_75 : decode cX12_carriesAll 75 = .ok (.invokevirtual 575, 3) := by decide +kernel
theorem dX12_carriesAll_78 : decode cX12_carriesAll 78 = .ok (.aload_n 0, 1) := by decide +kernel
theorem dX12_carriesAll_79 : decode cX12_carriesAll 79 = .ok (.aload_n 0, 1) := by decide +kernel
theorem dX12_carriesAll_80 : decode cX12_carriesAll 80 = .ok (.getfield 133, 3) := by decide +kernel
theorem dX12_carriesAll_83 : decode cX12_carriesAll 83 = .ok (.iconst 0, 1) := by decide +kernel
theorem dX12_carriesAll_84 : decode cX12_carriesAll 84 = .ok (.iaload, 1) := by decide +kernel
theorem dX12_carriesAll_85 : decode cX12_carriesAll 85 = .ok (.putfield 349, 3) := by decide +kernel
theorem dX12_carriesAll_88 : decode cX12_carriesAll 88 = .ok (.aload_n 0, 1) := by decide +kernel
theorem dX12_carriesAll_89 : decode cX12_carriesAll 89 = .ok (.aload_n 0, 1) := by decide +kernel
theorem dX12_carriesAll_90 : decode cX12_carriesAll 90 = .ok (.getfield 13, 3) := by decide +kernel
theorem dX12_carriesAll_93 : decode cX12_carriesAll 93 = .ok (.invokevirtual 575, 3) := by decide +kernel
theorem dX12_carriesAll_96 : decode cX12_carriesAll 96 = .ok (.aload_n 0, 1) := by decide +kernel
theorem dX12_carriesAll_97 : decode cX12_carriesAll 97 = .ok (.aload_n 0, 1) := by decide +kernel
theorem dX12_carriesAll_98 : decode cX12_carriesAll 98 = .ok (.getfield 16, 3) := by decide +kernel
theorem dX12_carriesAll_101 : decode cX12_carriesAll 101 = .ok (.invokevirtual 575, 3) := by decide +kernel
theorem dX12_carriesAll_104 : decode cX12_carriesAll 104 = .ok (.aload_n 0, 1) := by decide +kernel
theorem dX12_carriesAll_105 : decode cX12_carriesAll 105 = .ok (.aload_n 0, 1) := by decide +kernel
theorem dX12_carriesAll_106 : decode cX12_carriesAll 106 = .ok (.getfield 19, 3) := by decide +kernel
theorem dX12_carriesAll_109 : decode cX12_carriesAll 109 = .ok (.invokevirtual 575, 3) := by decide +kernel
theorem dX12_carriesAll_112 : decode cX12_carriesAll 112 = .ok (.aload_n 0, 1) := by decide +kernel
theorem dX12_carriesAll_113 : decode cX12_carriesAll 113 = .ok (.aload_n 0, 1) := by decide +kernel
theorem dX12_carriesAll_114 : decode cX12_carriesAll 114 = .ok (.getfield 25, 3) := by decide +kernel
theorem dX12_carriesAll_117 : decode cX12_carriesAll 117 = .ok (.invokevirtual 575, 3) := by decide +kernel
theorem dX12_carriesAll_120 : decode cX12_carriesAll 120 = .ok (.aload_n 0, 1) := by decide +kernel
theorem dX12_carriesAll_121 : decode cX12_carriesAll 121 = .ok (.aload_n 0, 1) := by decide +kernel
theorem dX12_carriesAll_122 : decode cX12_carriesAll 122 = .ok (.getfield 28, 3) := by decide +kernel
theorem dX12_carriesAll_125 : decode cX12_carriesAll 125 = .ok (.invokevirtual 575, 3) := by decide +kernel
theorem dX12_carriesAll_128 : decode cX12_carriesAll 128 = .ok (.aload_n 0, 1) := by decide +kernel
theorem dX12_carriesAll_129 : decode cX12_carriesAll 129 = .ok (.aload_n 0, 1) := by decide +kernel
theorem dX12_carriesAll_130 : decode cX12_carriesAll 130 = .ok (.getfield 40, 3) := by decide +kernel
theorem dX12_carriesAll_133 : decode cX12_carriesAll 133 = .ok (.invokevirtual 575, 3) := by decide +kernel
theorem dX12_carriesAll_136 : decode cX12_carriesAll 136 = .ok (.aload_n 0, 1) := by decide +kernel
theorem dX12_carriesAll_137 : decode cX12_carriesAll 137 = .ok (.aload_n 0, 1) := by decide +kernel
theorem dX12_carriesAll_138 : decode cX12_carriesAll 138 = .ok (.getfield 43, 3) := by decide +kernel
theorem dX12_carriesAll_141 : decode cX12_carriesAll 141 = .ok (.invokevirtual 575, 3) := by decide +kernel
theorem dX12_carriesAll_144 : decode cX12_carriesAll 144 = .ok (.aload_n 0, 1) := by decide +kernel
theorem dX12_carriesAll_145 : decode cX12_carriesAll 145 = .ok (.aload_n 0, 1) := by decide +kernel
theorem dX12_carriesAll_146 : decode cX12_carriesAll 146 = .ok (.getfield 46, 3) := by decide +kernel
theorem dX12_carriesAll_149 : decode cX12_carriesAll 149 = .ok (.invokevirtual 575, 3) := by decide +kernel
theorem dX12_carriesAll_152 : decode cX12_carriesAll 152 = .ok (.aload_n 0, 1) := by decide +kernel
theorem dX12_carriesAll_153 : decode cX12_carriesAll 153 = .ok (.aload_n 0, 1) := by decide +kernel
theorem dX12_carriesAll_154 : decode cX12_carriesAll 154 = .ok (.getfield 49, 3) := by decide +kernel
theorem dX12_carriesAll_157 : decode cX12_carriesAll 157 = .ok (.invokevirtual 575, 3) := by decide +kernel
theorem dX12_carriesAll_160 : decode cX12_carriesAll 160 = .ok (.aload_n 0, 1) := by decide +kernel
theorem dX12_carriesAll_161 : decode cX12_carriesAll 161 = .ok (.aload_n 0, 1) := by decide +kernel
theorem dX12_carriesAll_162 : decode cX12_carriesAll 162 = .ok (.getfield 52, 3) := by decide +kernel
theorem dX12_carriesAll_165 : decode cX12_carriesAll 165 = .ok (.invokevirtual 575, 3) := by decide +kernel
theorem dX12_carriesAll_168 : decode cX12_carriesAll 168 = .ok (.aload_n 0, 1) := by decide +kernel
theorem dX12_carriesAll_169 : decode cX12_carriesAll 169 = .ok (.aload_n 0, 1) := by decide +kernel
theorem dX12_carriesAll_170 : decode cX12_carriesAll 170 = .ok (.getfield 55, 3) := by decide +kernel
theorem dX12_carriesAll_173 : decode cX12_carriesAll 173 = .ok (.invokevirtual 575, 3) := by decide +kernel
theorem dX12_carriesAll_176 : decode cX12_carriesAll 176 = .ok (.aload_n 0, 1) := by decide +kernel
theorem dX12_carriesAll_177 : decode cX12_carriesAll 177 = .ok (.aload_n 0, 1) := by decide +kernel
theorem dX12_carriesAll_178 : decode cX12_carriesAll 178 = .ok (.getfield 58, 3) := by decide +kernel
theorem dX12_carriesAll_181 : decode cX12_carriesAll 181 = .ok (.invokevirtual 575, 3) := by decide +kernel
theorem dX12_carriesAll_184 : decode cX12_carriesAll 184 = .ok (.aload_n 0, 1) := by decide +kernel
theorem dX12_carriesAll_185 : decode cX12_carriesAll 185 = .ok (.aload_n 0, 1) := by decide +kernel
theorem dX12_carriesAll_186 : decode cX12_carriesAll 186 = .ok (.getfield 130, 3) := by decide +kernel
theorem dX12_carriesAll_189 : decode cX12_carriesAll 189 = .ok (.invokevirtual 575, 3) := by decide +kernel
theorem dX12_carriesAll_192 : decode cX12_carriesAll 192 = .ok (.return_, 1) := by decide +kernel
theorem dX12_image_0 : decode cX12_image 0 = .ok (.iload_n 1, 1) := by decide +kernel
theorem dX12_image_1 : decode cX12_image 1 = .ok (.i2l, 1) := by decide +kernel
theorem dX12_image_2 : decode cX12_image 2 = .ok (.lconst 0, 1) := by decide +kernel
theorem dX12_image_3 : decode cX12_image 3 = .ok (.ldc2_w 578, 3) := by decide +kernel
theorem dX12_image_6 : decode cX12_image 6 = .ok (.invokestatic 164, 3) := by decide +kernel
theorem dX12_image_9 : decode cX12_image 9 = .ok (.ifCond .ne 5, 3) := by decide +kernel
theorem dX12_image_12 : decode cX12_image 12 = .ok (.iconst (-1), 1) := by decide +kernel
theorem dX12_image_13 : decode cX12_image 13 = .ok (.ireturn, 1) := by decide +kernel
theorem dX12_image_14 : decode cX12_image 14 = .ok (.aload_n 0, 1) := by decide +kernel
theorem dX12_image_15 : decode cX12_image 15 = .ok (.getfield 157, 3) := by decide +kernel
theorem dX12_image_18 : decode cX12_image 18 = .ok (.iload_n 1, 1) := by decide +kernel
theorem dX12_image_19 : decode cX12_image 19 = .ok (.iconst 1, 1) := by decide +kernel
theorem dX12_image_20 : decode cX12_image 20 = .ok (.bastore, 1) := by decide +kernel
theorem dX12_image_21 : decode cX12_image 21 = .ok (.aload_n 0, 1) := by decide +kernel
theorem dX12_image_22 : decode cX12_image 22 = .ok (.iload_n 1, 1) := by decide +kernel
theorem dX12_image_23 : decode cX12_image 23 = .ok (.iconst 0, 1) := by decide +kernel
theorem dX12_image_24 : decode cX12_image 24 = .ok (.invokevirtual 481, 3) := by decide +kernel
theorem dX12_image_27 : decode cX12_image 27 = .ok (.aload_n 0, 1) := by decide +kernel
theorem dX12_image_28 : decode cX12_image 28 = .ok (.getfield 9, 3) := by decide +kernel
theorem dX12_image_31 : decode cX12_image 31 = .ok (.bipush 9, 2) := by decide +kernel
theorem dX12_image_33 : decode cX12_image 33 = .ok (.iaload, 1) := by decide +kernel
theorem dX12_image_34 : decode cX12_image 34 = .ok (.ireturn, 1) := by decide +kernel
theorem dX12_back_0 : decode cX12_back 0 = .ok (.iload_n 1, 1) := by decide +kernel
theorem dX12_back_1 : decode cX12_back 1 = .ok (.i2l, 1) := by decide +kernel
theorem dX12_back_2 : decode cX12_back 2 = .ok (.lconst 0, 1) := by decide +kernel
theorem dX12_back_3 : decode cX12_back 3 = .ok (.ldc2_w 578, 3) := by decide +kernel
theorem dX12_back_6 : decode cX12_back 6 = .ok (.invokestatic 164, 3) := by decide +kernel
theorem dX12_back_9 : decode cX12_back 9 = .ok (.ifCond .eq 12, 3) := by decide +kernel
theorem dX12_back_12 : decode cX12_back 12 = .ok (.aload_n 0, 1) := by decide +kernel
theorem dX12_back_13 : decode cX12_back 13 = .ok (.getfield 157, 3) := by decide +kernel
theorem dX12_back_16 : decode cX12_back 16 = .ok (.iload_n 1, 1) := by decide +kernel
theorem dX12_back_17 : decode cX12_back 17 = .ok (.baload, 1) := by decide +kernel
theorem dX12_back_18 : decode cX12_back 18 = .ok (.ifCond .ne 5, 3) := by decide +kernel
theorem dX12_back_21 : decode cX12_back 21 = .ok (.iconst (-1), 1) := by decide +kernel
theorem dX12_back_22 : decode cX12_back 22 = .ok (.ireturn, 1) := by decide +kernel
theorem dX12_back_23 : decode cX12_back 23 = .ok (.aload_n 0, 1) := by decide +kernel
theorem dX12_back_24 : decode cX12_back 24 = .ok (.iload_n 1, 1) := by decide +kernel
theorem dX12_back_25 : decode cX12_back 25 = .ok (.iconst 1, 1) := by decide +kernel
theorem dX12_back_26 : decode cX12_back 26 = .ok (.invokevirtual 481, 3) := by decide +kernel
theorem dX12_back_29 : decode cX12_back 29 = .ok (.aload_n 0, 1) := by decide +kernel
theorem dX12_back_30 : decode cX12_back 30 = .ok (.getfield 9, 3) := by decide +kernel
theorem dX12_back_33 : decode cX12_back 33 = .ok (.bipush 9, 2) := by decide +kernel
theorem dX12_back_35 : decode cX12_back 35 = .ok (.iaload, 1) := by decide +kernel
theorem dX12_back_36 : decode cX12_back 36 = .ok (.ireturn, 1) := by decide +kernel
theorem dJ11_isValidCodePoint_9a6ad_0 : decode cJ11_isValidCodePoint_9a6ad 0 = .ok (.iload_n 0, 1) := by decide +kernel
theorem dJ11_isValidCodePoint_9a6ad_1 : decode cJ11_isValidCodePoint_9a6ad 1 = .ok (.bipush 16, 2) := by decide +kernel
theorem dJ11_isValidCodePoint_9a6ad_3 : decode cJ11_isValidCodePoint_9a6ad 3 = .ok (.iushr, 1) := by decide +kernel
theorem dJ11_isValidCodePoint_9a6ad_4 : decode cJ11_isValidCodePoint_9a6ad 4 = .ok (.istore_n 1, 1) := by decide +kernel
theorem dJ11_isValidCodePoint_9a6ad_5 : decode cJ11_isValidCodePoint_9a6ad 5 = .ok (.iload_n 1, 1) := by decide +kernel
theorem dJ11_isValidCodePoint_9a6ad_6 : decode cJ11_isValidCodePoint_9a6ad 6 = .ok (.bipush 17, 2) := by decide +kernel
theorem dJ11_isValidCodePoint_9a6ad_8 : decode cJ11_isValidCodePoint_9a6ad 8 = .ok (.if_icmp .ge 7, 3) := by decide +kernel
theorem dJ11_isValidCodePoint_9a6ad_11 : decode cJ11_isValidCodePoint_9a6ad 11 = .ok (.iconst 1, 1) := by decide +kernel
theorem dJ11_isValidCodePoint_9a6ad_12 : decode cJ11_isValidCodePoint_9a6ad 12 = .ok (.goto 4, 3) := by decide +kernel
theorem dJ11_isValidCodePoint_9a6ad_15 : decode cJ11_isValidCodePoint_9a6ad 15 = .ok (.iconst 0, 1) := by decide +kernel
theorem dJ11_isValidCodePoint_9a6ad_16 : decode cJ11_isValidCodePoint_9a6ad 16 = .ok (.ireturn, 1) := by decide +kernel
theorem dJ11_highSurrogate_5068e_0 : decode cJ11_highSurrogate_5068e 0 = .ok (.iload_n 0, 1) := by decide +kernel
theorem dJ11_highSurrogate_5068e_1 : decode cJ11_highSurrogate_5068e 1 = .ok (.bipush 10, 2) := by decide +kernel
theorem dJ11_highSurrogate_5068e_3 : decode cJ11_highSurrogate_5068e 3 = .ok (.iushr, 1) := by decide +kernel
theorem dJ11_highSurrogate_5068e_4 : decode cJ11_highSurrogate_5068e 4 = .ok (.ldc 110, 2) := by decide +kernel
theorem dJ11_highSurrogate_5068e_6 : decode cJ11_highSurrogate_5068e 6 = .ok (.iadd, 1) := by decide +kernel
theorem dJ11_highSurrogate_5068e_7 : decode cJ11_highSurrogate_5068e 7 = .ok (.i2c, 1) := by decide +kernel
theorem dJ11_highSurrogate_5068e_8 : decode cJ11_highSurrogate_5068e 8 = .ok (.ireturn, 1) := by decide +kernel
theorem dJ11_lowSurrogate_5068e_0 : decode cJ11_lowSurrogate_5068e 0 = .ok (.iload_n 0, 1) := by decide +kernel
theorem dJ11_lowSurrogate_5068e_1 : decode cJ11_lowSurrogate_5068e 1 = .ok (.sipush 1023, 3) := by decide +kernel
theorem dJ11_lowSurrogate_5068e_4 : decode cJ11_lowSurrogate_5068e 4 = .ok (.iand, 1) := by decide +kernel
theorem dJ11_lowSurrogate_5068e_5 : decode cJ11_lowSurrogate_5068e 5 = .ok (.ldc 76, 2) := by decide +kernel
theorem dJ11_lowSurrogate_5068e_7 : decode cJ11_lowSurrogate_5068e 7 = .ok (.iadd, 1) := by decide +kernel
theorem dJ11_lowSurrogate_5068e_8 : decode cJ11_lowSurrogate_5068e 8 = .ok (.i2c, 1) := by decide +kernel
theorem dJ11_lowSurrogate_5068e_9 : decode cJ11_lowSurrogate_5068e 9 = .ok (.ireturn, 1) := by decide +kernel
theorem dJ6_bitCount_0f7a4_0 : decode cJ6_bitCount_0f7a4 0 = .ok (.iload_n 0, 1) := by decide +kernel
theorem dJ6_bitCount_0f7a4_1 : decode cJ6_bitCount_0f7a4 1 = .ok (.iload_n 0, 1) := by decide +kernel
theorem dJ6_bitCount_0f7a4_2 : decode cJ6_bitCount_0f7a4 2 = .ok (.iconst 1, 1) := by decide +kernel
theorem dJ6_bitCount_0f7a4_3 : decode cJ6_bitCount_0f7a4 3 = .ok (.iushr, 1) := by decide +kernel
theorem dJ6_bitCount_0f7a4_4 : decode cJ6_bitCount_0f7a4 4 = .ok (.ldc_w 265, 3) := by decide +kernel
theorem dJ6_bitCount_0f7a4_7 : decode cJ6_bitCount_0f7a4 7 = .ok (.iand, 1) := by decide +kernel
theorem dJ6_bitCount_0f7a4_8 : decode cJ6_bitCount_0f7a4 8 = .ok (.isub, 1) := by decide +kernel
theorem dJ6_bitCount_0f7a4_9 : decode cJ6_bitCount_0f7a4 9 = .ok (.istore_n 0, 1) := by decide +kernel
theorem dJ6_bitCount_0f7a4_10 : decode cJ6_bitCount_0f7a4 10 = .ok (.iload_n 0, 1) := by decide +kernel
theorem dJ6_bitCount_0f7a4_11 : decode cJ6_bitCount_0f7a4 11 = .ok (.ldc_w 266, 3) := by decide +kernel
theorem dJ6_bitCount_0f7a4_14 : decode cJ6_bitCount_0f7a4 14 = .ok (.iand, 1) := by decide +kernel
theorem dJ6_bitCount_0f7a4_15 : decode cJ6_bitCount_0f7a4 15 = .ok (.iload_n 0, 1) := by decide +kernel
theorem dJ6_bitCount_0f7a4_16 : decode cJ6_bitCount_0f7a4 16 = .ok (.iconst 2, 1) := by decide +kernel
theorem dJ6_bitCount_0f7a4_17 : decode cJ6_bitCount_0f7a4 17 = .ok (.iushr, 1) := by decide +kernel
theorem dJ6_bitCount_0f7a4_18 : decode cJ6_bitCount_0f7a4 18 = .ok (.ldc_w 266, 3) := by decide +kernel
theorem dJ6_bitCount_0f7a4_21 : decode cJ6_bitCount_0f7a4 21 = .ok (.iand, 1) := by decide +kernel
theorem dJ6_bitCount_0f7a4_22 : decode cJ6_bitCount_0f7a4 22 = .ok (.iadd, 1) := by decide +kernel
theorem dJ6_bitCount_0f7a4_23 : decode cJ6_bitCount_0f7a4 23 = .ok (.istore_n 0, 1) := by decide +kernel
theorem dJ6_bitCount_0f7a4_24 : decode cJ6_bitCount_0f7a4 24 = .ok (.iload_n 0, 1) := by decide +kernel
theorem dJ6_bitCount_0f7a4_25 : decode cJ6_bitCount_0f7a4 25 = .ok (.iload_n 0, 1) := by decide +kernel
theorem dJ6_bitCount_0f7a4_26 : decode cJ6_bitCount_0f7a4 26 = .ok (.iconst 4, 1) := by decide +kernel
theorem dJ6_bitCount_0f7a4_27 : decode cJ6_bitCount_0f7a4 27 = .ok (.iushr, 1) := by decide +kernel
theorem dJ6_bitCount_0f7a4_28 : decode cJ6_bitCount_0f7a4 28 = .ok (.iadd, 1) := by decide +kernel
theorem dJ6_bitCount_0f7a4_29 : decode cJ6_bitCount_0f7a4 29 = .ok (.ldc_w 267, 3) := by decide +kernel
theorem dJ6_bitCount_0f7a4_32 : decode cJ6_bitCount_0f7a4 32 = .ok (.iand, 1) := by decide +kernel
theorem dJ6_bitCount_0f7a4_33 : decode cJ6_bitCount_0f7a4 33 = .ok (.istore_n 0, 1) := by decide +kernel
theorem dJ6_bitCount_0f7a4_34 : decode cJ6_bitCount_0f7a4 34 = .ok (.iload_n 0, 1) := by decide +kernel
theorem dJ6_bitCount_0f7a4_35 : decode cJ6_bitCount_0f7a4 35 = .ok (.iload_n 0, 1) := by decide +kernel
theorem dJ6_bitCount_0f7a4_36 : decode cJ6_bitCount_0f7a4 36 = .ok (.bipush 8, 2) := by decide +kernel
theorem dJ6_bitCount_0f7a4_38 : decode cJ6_bitCount_0f7a4 38 = .ok (.iushr, 1) := by decide +kernel
theorem dJ6_bitCount_0f7a4_39 : decode cJ6_bitCount_0f7a4 39 = .ok (.iadd, 1) := by decide +kernel
theorem dJ6_bitCount_0f7a4_40 : decode cJ6_bitCount_0f7a4 40 = .ok (.istore_n 0, 1) := by decide +kernel
theorem dJ6_bitCount_0f7a4_41 : decode cJ6_bitCount_0f7a4 41 = .ok (.iload_n 0, 1) := by decide +kernel
theorem dJ6_bitCount_0f7a4_42 : decode cJ6_bitCount_0f7a4 42 = .ok (.iload_n 0, 1) := by decide +kernel
theorem dJ6_bitCount_0f7a4_43 : decode cJ6_bitCount_0f7a4 43 = .ok (.bipush 16, 2) := by decide +kernel
theorem dJ6_bitCount_0f7a4_45 : decode cJ6_bitCount_0f7a4 45 = .ok (.iushr, 1) := by decide +kernel
theorem dJ6_bitCount_0f7a4_46 : decode cJ6_bitCount_0f7a4 46 = .ok (.iadd, 1) := by decide +kernel
theorem dJ6_bitCount_0f7a4_47 : decode cJ6_bitCount_0f7a4 47 = .ok (.istore_n 0, 1) := by decide +kernel
theorem dJ6_bitCount_0f7a4_48 : decode cJ6_bitCount_0f7a4 48 = .ok (.iload_n 0, 1) := by decide +kernel
theorem dJ6_bitCount_0f7a4_49 : decode cJ6_bitCount_0f7a4 49 = .ok (.bipush 63, 2) := by decide +kernel
theorem dJ6_bitCount_0f7a4_51 : decode cJ6_bitCount_0f7a4 51 = .ok (.iand, 1) := by decide +kernel
theorem dJ6_bitCount_0f7a4_52 : decode cJ6_bitCount_0f7a4 52 = .ok (.ireturn, 1) := by decide +kernel
theorem dJ9_max_7cf53_0 : decode cJ9_max_7cf53 0 = .ok (.iload_n 0, 1) := by decide +kernel
theorem dJ9_max_7cf53_1 : decode cJ9_max_7cf53 1 = .ok (.iload_n 1, 1) := by decide +kernel
theorem dJ9_max_7cf53_2 : decode cJ9_max_7cf53 2 = .ok (.if_icmp .lt 7, 3) := by decide +kernel
theorem dJ9_max_7cf53_5 : decode cJ9_max_7cf53 5 = .ok (.iload_n 0, 1) := by decide +kernel
theorem dJ9_max_7cf53_6 : decode cJ9_max_7cf53 6 = .ok (.goto 4, 3) := by decide +kernel
theorem dJ9_max_7cf53_9 : decode cJ9_max_7cf53 9 = .ok (.iload_n 1, 1) := by decide +kernel
theorem dJ9_max_7cf53_10 : decode cJ9_max_7cf53 10 = .ok (.ireturn, 1) := by decide +kernel
theorem dJ9_min_7cf53_0 : decode cJ9_min_7cf53 0 = .ok (.iload_n 0, 1) := by decide +kernel
theorem dJ9_min_7cf53_1 : decode cJ9_min_7cf53 1 = .ok (.iload_n 1, 1) := by decide +kernel
theorem dJ9_min_7cf53_2 : decode cJ9_min_7cf53 2 = .ok (.if_icmp .gt 7, 3) := by decide +kernel
theorem dJ9_min_7cf53_5 : decode cJ9_min_7cf53 5 = .ok (.iload_n 0, 1) := by decide +kernel
theorem dJ9_min_7cf53_6 : decode cJ9_min_7cf53 6 = .ok (.goto 4, 3) := by decide +kernel
theorem dJ9_min_7cf53_9 : decode cJ9_min_7cf53 9 = .ok (.iload_n 1, 1) := by decide +kernel
theorem dJ9_min_7cf53_10 : decode cJ9_min_7cf53 10 = .ok (.ireturn, 1) := by decide +kernel
theorem dJ0_length_8abf5_0 : decode cJ0_length_8abf5 0 = .ok (.aload_n 0, 1) := by decide +kernel
theorem dJ0_length_8abf5_1 : decode cJ0_length_8abf5 1 = .ok (.getfield 9, 3) := by decide +kernel
theorem dJ0_length_8abf5_4 : decode cJ0_length_8abf5 4 = .ok (.arraylength, 1) := by decide +kernel
theorem dJ0_length_8abf5_5 : decode cJ0_length_8abf5 5 = .ok (.aload_n 0, 1) := by decide +kernel
theorem dJ0_length_8abf5_6 : decode cJ0_length_8abf5 6 = .ok (.invokevirtual 335, 3) := by decide +kernel
theorem dJ0_length_8abf5_9 : decode cJ0_length_8abf5 9 = .ok (.ishr, 1) := by decide +kernel
theorem dJ0_length_8abf5_10 : decode cJ0_length_8abf5 10 = .ok (.ireturn, 1) := by decide +kernel
theorem dJ0_charAt_5068e_0 : decode cJ0_charAt_5068e 0 = .ok (.aload_n 0, 1) := by decide +kernel
theorem dJ0_charAt_5068e_1 : decode cJ0_charAt_5068e 1 = .ok (.invokevirtual 492, 3) := by decide +kernel
theorem dJ0_charAt_5068e_4 : decode cJ0_charAt_5068e 4 = .ok (.ifCond .eq 12, 3) := by decide +kernel
theorem dJ0_charAt_5068e_7 : decode cJ0_charAt_5068e 7 = .ok (.aload_n 0, 1) := by decide +kernel
theorem dJ0_charAt_5068e_8 : decode cJ0_charAt_5068e 8 = .ok (.getfield 9, 3) := by decide +kernel
theorem dJ0_charAt_5068e_11 : decode cJ0_charAt_5068e 11 = .ok (.iload_n 1, 1) := by decide +kernel
theorem dJ0_charAt_5068e_12 : decode cJ0_charAt_5068e 12 = .ok (.invokestatic 495, 3) := by decide +kernel
theorem dJ0_charAt_5068e_15 : decode cJ0_charAt_5068e 15 = .ok (.ireturn, 1) := by decide +kernel
theorem dJ0_charAt_5068e_16 : decode cJ0_charAt_5068e 16 = .ok (.aload_n 0, 1) := by decide +kernel
theorem dJ0_charAt_5068e_17 : decode cJ0_charAt_5068e 17 = .ok (.getfield 9, 3) := by decide +kernel
theorem dJ0_charAt_5068e_20 : decode cJ0_charAt_5068e 20 = .ok (.iload_n 1, 1) := by decide +kernel
theorem dJ0_charAt_5068e_21 : decode cJ0_charAt_5068e 21 = .ok (.invokestatic 498, 3) := by decide +kernel
theorem dJ0_charAt_5068e_24 : decode cJ0_charAt_5068e 24 = .ok (.ireturn, 1) := by decide +kernel
theorem dJ0_indexOf_0f7a4_0 : decode cJ0_indexOf_0f7a4 0 = .ok (.aload_n 0, 1) := by decide +kernel
theorem dJ0_indexOf_0f7a4_1 : decode cJ0_indexOf_0f7a4 1 = .ok (.iload_n 1, 1) := by decide +kernel
theorem dJ0_indexOf_0f7a4_2 : decode cJ0_indexOf_0f7a4 2 = .ok (.iconst 0, 1) := by decide +kernel
theorem dJ0_indexOf_0f7a4_3 : decode cJ0_indexOf_0f7a4 3 = .ok (.invokevirtual 633, 3) := by decide +kernel
theorem dJ0_indexOf_0f7a4_6 : decode cJ0_indexOf_0f7a4 6 = .ok (.ireturn, 1) := by decide +kernel
theorem dJ0_indexOf_7cf53_0 : decode cJ0_indexOf_7cf53 0 = .ok (.aload_n 0, 1) := by decide +kernel
theorem dJ0_indexOf_7cf53_1 : decode cJ0_indexOf_7cf53 1 = .ok (.invokevirtual 492, 3) := by decide +kernel
theorem dJ0_indexOf_7cf53_4 : decode cJ0_indexOf_7cf53 4 = .ok (.ifCond .eq 19, 3) := by decide +kernel
theorem dJ0_indexOf_7cf53_7 : decode cJ0_indexOf_7cf53 7 = .ok (.aload_n 0, 1) := by decide +kernel
theorem dJ0_indexOf_7cf53_8 : decode cJ0_indexOf_7cf53 8 = .ok (.getfield 9, 3) := by decide +kernel
theorem dJ0_indexOf_7cf53_11 : decode cJ0_indexOf_7cf53 11 = .ok (.iload_n 1, 1) := by decide +kernel
theorem dJ0_indexOf_7cf53_12 : decode cJ0_indexOf_7cf53 12 = .ok (.iload_n 2, 1) := by decide +kernel
theorem dJ0_indexOf_7cf53_13 : decode cJ0_indexOf_7cf53 13 = .ok (.aload_n 0, 1) := by decide +kernel
theorem dJ0_indexOf_7cf53_14 : decode cJ0_indexOf_7cf53 14 = .ok (.invokevirtual 505, 3) := by decide +kernel
theorem dJ0_indexOf_7cf53_17 : decode cJ0_indexOf_7cf53 17 = .ok (.invokestatic 637, 3) := by decide +kernel
theorem dJ0_indexOf_7cf53_20 : decode cJ0_indexOf_7cf53 20 = .ok (.goto 16, 3) := by decide +kernel
theorem dJ0_indexOf_7cf53_23 : decode cJ0_indexOf_7cf53 23 = .ok (.aload_n 0, 1) := by decide +kernel
theorem dJ0_indexOf_7cf53_24 : decode cJ0_indexOf_7cf53 24 = .ok (.getfield 9, 3) := by decide +kernel
theorem dJ0_indexOf_7cf53_27 : decode cJ0_indexOf_7cf53 27 = .ok (.iload_n 1, 1) := by decide +kernel
theorem dJ0_indexOf_7cf53_28 : decode cJ0_indexOf_7cf53 28 = .ok (.iload_n 2, 1) := by decide +kernel
theorem dJ0_indexOf_7cf53_29 : decode cJ0_indexOf_7cf53 29 = .ok (.aload_n 0, 1) := by decide +kernel
theorem dJ0_indexOf_7cf53_30 : decode cJ0_indexOf_7cf53 30 = .ok (.invokevirtual 505, 3) := by decide +kernel
theorem dJ0_indexOf_7cf53_33 : decode cJ0_indexOf_7cf53 33 = .ok (.invokestatic 640, 3) := by decide +kernel
theorem dJ0_indexOf_7cf53_36 : decode cJ0_indexOf_7cf53 36 = .ok (.ireturn, 1) := by decide +kernel
theorem dJ0_coder_7d493_0 : decode cJ0_coder_7d493 0 = .ok (.getstatic 38, 3) := by decide +kernel
theorem dJ0_coder_7d493_3 : decode cJ0_coder_7d493 3 = .ok (.ifCond .eq 10, 3) := by decide +kernel
theorem dJ0_coder_7d493_6 : decode cJ0_coder_7d493 6 = .ok (.aload_n 0, 1) := by decide +kernel
theorem dJ0_coder_7d493_7 : decode cJ0_coder_7d493 7 = .ok (.getfield 15, 3) := by decide +kernel
theorem dJ0_coder_7d493_10 : decode cJ0_coder_7d493 10 = .ok (.goto 4, 3) := by decide +kernel
theorem dJ0_coder_7d493_13 : decode cJ0_coder_7d493 13 = .ok (.iconst 1, 1) := by decide +kernel
theorem dJ0_coder_7d493_14 : decode cJ0_coder_7d493 14 = .ok (.ireturn, 1) := by decide +kernel
theorem dJ0_isLatin1_aae02_0 : decode cJ0_isLatin1_aae02 0 = .ok (.getstatic 38, 3) := by decide +kernel
theorem dJ0_isLatin1_aae02_3 : decode cJ0_isLatin1_aae02 3 = .ok (.ifCond .eq 14, 3) := by decide +kernel
theorem dJ0_isLatin1_aae02_6 : decode cJ0_isLatin1_aae02 6 = .ok (.aload_n 0, 1) := by decide +kernel
theorem dJ0_isLatin1_aae02_7 : decode cJ0_isLatin1_aae02 7 = .ok (.getfield 15, 3) := by decide +kernel
theorem dJ0_isLatin1_aae02_10 : decode cJ0_isLatin1_aae02 10 = .ok (.ifCond .ne 7, 3) := by decide +kernel
theorem dJ0_isLatin1_aae02_13 : decode cJ0_isLatin1_aae02 13 = .ok (.iconst 1, 1) := by decide +kernel
theorem dJ0_isLatin1_aae02_14 : decode cJ0_isLatin1_aae02 14 = .ok (.goto 4, 3) := by decide +kernel
theorem dJ0_isLatin1_aae02_17 : decode cJ0_isLatin1_aae02 17 = .ok (.iconst 0, 1) := by decide +kernel
theorem dJ0_isLatin1_aae02_18 : decode cJ0_isLatin1_aae02 18 = .ok (.ireturn, 1) := by decide +kernel
theorem dJ0_checkIndex_df160_0 : decode cJ0_checkIndex_df160 0 = .ok (.iload_n 0, 1) := by decide +kernel
theorem dJ0_checkIndex_df160_1 : decode cJ0_checkIndex_df160 1 = .ok (.iload_n 1, 1) := by decide +kernel
theorem dJ0_checkIndex_df160_2 : decode cJ0_checkIndex_df160 2 = .ok (.getstatic 1053, 3) := by decide +kernel
theorem dJ0_checkIndex_df160_5 : decode cJ0_checkIndex_df160 5 = .ok (.invokestatic 1059, 3) := by decide +kernel
theorem dJ0_checkIndex_df160_8 : decode cJ0_checkIndex_df160 8 = .ok (.pop, 1) := by decide +kernel
theorem dJ0_checkIndex_df160_9 : decode cJ0_checkIndex_df160 9 = .ok (.return_, 1) := by decide +kernel
theorem dJ0_checkBoundsBeginEnd_23922_0 : decode cJ0_checkBoundsBeginEnd_23922 0 = .ok (.iload_n 0, 1) := by decide +kernel
theorem dJ0_checkBoundsBeginEnd_23922_1 : decode cJ0_checkBoundsBeginEnd_23922 1 = .ok (.iload_n 1, 1) := by decide +kernel
theorem dJ0_checkBoundsBeginEnd_23922_2 : decode cJ0_checkBoundsBeginEnd_23922 2 = .ok (.iload_n 2, 1) := by decide +kernel
theorem dJ0_checkBoundsBeginEnd_23922_3 : decode cJ0_checkBoundsBeginEnd_23922 3 = .ok (.getstatic 1053, 3) := by decide +kernel
theorem dJ0_checkBoundsBeginEnd_23922_6 : decode cJ0_checkBoundsBeginEnd_23922 6 = .ok (.invokestatic 1062, 3) := by decide +kernel
theorem dJ0_checkBoundsBeginEnd_23922_9 : decode cJ0_checkBoundsBeginEnd_23922 9 = .ok (.pop, 1) := by decide +kernel
theorem dJ0_checkBoundsBeginEnd_23922_10 : decode cJ0_checkBoundsBeginEnd_23922 10 = .ok (.return_, 1) := by decide +kernel
theorem dJ1_charAt_3b067_0 : decode cJ1_charAt_3b067 0 = .ok (.iload_n 1, 1) := by decide +kernel
theorem dJ1_charAt_3b067_1 : decode cJ1_charAt_3b067 1 = .ok (.aload_n 0, 1) := by decide +kernel
theorem dJ1_charAt_3b067_2 : decode cJ1_charAt_3b067 2 = .ok (.arraylength, 1) := by decide +kernel
theorem dJ1_charAt_3b067_3 : decode cJ1_charAt_3b067 3 = .ok (.invokestatic 9, 3) := by decide +kernel
theorem dJ1_charAt_3b067_6 : decode cJ1_charAt_3b067 6 = .ok (.aload_n 0, 1) := by decide +kernel
theorem dJ1_charAt_3b067_7 : decode cJ1_charAt_3b067 7 = .ok (.iload_n 1, 1) := by decide +kernel
theorem dJ1_charAt_3b067_8 : decode cJ1_charAt_3b067 8 = .ok (.baload, 1) := by decide +kernel
theorem dJ1_charAt_3b067_9 : decode cJ1_charAt_3b067 9 = .ok (.sipush 255, 3) := by decide +kernel
theorem dJ1_charAt_3b067_12 : decode cJ1_charAt_3b067 12 = .ok (.iand, 1) := by decide +kernel
theorem dJ1_charAt_3b067_13 : decode cJ1_charAt_3b067 13 = .ok (.i2c, 1) := by decide +kernel
theorem dJ1_charAt_3b067_14 : decode cJ1_charAt_3b067 14 = .ok (.ireturn, 1) := by decide +kernel
theorem dJ1_canEncode_9a6ad_0 : decode cJ1_canEncode_9a6ad 0 = .ok (.iload_n 0, 1) := by decide +kernel
theorem dJ1_canEncode_9a6ad_1 : decode cJ1_canEncode_9a6ad 1 = .ok (.ifCond .lt 14, 3) := by decide +kernel
theorem dJ1_canEncode_9a6ad_4 : decode cJ1_canEncode_9a6ad 4 = .ok (.iload_n 0, 1) := by decide +kernel
theorem dJ1_canEncode_9a6ad_5 : decode cJ1_canEncode_9a6ad 5 = .ok (.sipush 255, 3) := by decide +kernel
theorem dJ1_canEncode_9a6ad_8 : decode cJ1_canEncode_9a6ad 8 = .ok (.if_icmp .gt 7, 3) := by decide +kernel
theorem dJ1_canEncode_9a6ad_11 : decode cJ1_canEncode_9a6ad 11 = .ok (.iconst 1, 1) := by decide +kernel
theorem dJ1_canEncode_9a6ad_12 : decode cJ1_canEncode_9a6ad 12 = .ok (.goto 4, 3) := by decide +kernel
theorem dJ1_canEncode_9a6ad_15 : decode cJ1_canEncode_9a6ad 15 = .ok (.iconst 0, 1) := by decide +kernel
theorem dJ1_canEncode_9a6ad_16 : decode cJ1_canEncode_9a6ad 16 = .ok (.ireturn, 1) := by decide +kernel
theorem dJ1_indexOf_4cfef_0 : decode cJ1_indexOf_4cfef 0 = .ok (.iload_n 1, 1) := by decide +kernel
theorem dJ1_indexOf_4cfef_1 : decode cJ1_indexOf_4cfef 1 = .ok (.invokestatic 88, 3) := by decide +kernel
theorem dJ1_indexOf_4cfef_4 : decode cJ1_indexOf_4cfef 4 = .ok (.ifCond .ne 5, 3) := by decide +kernel
theorem dJ1_indexOf_4cfef_7 : decode cJ1_indexOf_4cfef 7 = .ok (.iconst (-1), 1) := by decide +kernel
theorem dJ1_indexOf_4cfef_8 : decode cJ1_indexOf_4cfef 8 = .ok (.ireturn, 1) := by decide +kernel
theorem dJ1_indexOf_4cfef_9 : decode cJ1_indexOf_4cfef 9 = .ok (.iload_n 2, 1) := by decide +kernel
theorem dJ1_indexOf_4cfef_10 : decode cJ1_indexOf_4cfef 10 = .ok (.iconst 0, 1) := by decide +kernel
theorem dJ1_indexOf_4cfef_11 : decode cJ1_indexOf_4cfef 11 = .ok (.invokestatic 92, 3) := by decide +kernel
theorem dJ1_indexOf_4cfef_14 : decode cJ1_indexOf_4cfef 14 = .ok (.istore_n 2, 1) := by decide +kernel
theorem dJ1_indexOf_4cfef_15 : decode cJ1_indexOf_4cfef 15 = .ok (.iload_n 3, 1) := by decide +kernel
theorem dJ1_indexOf_4cfef_16 : decode cJ1_indexOf_4cfef 16 = .ok (.aload_n 0, 1) := by decide +kernel
theorem dJ1_indexOf_4cfef_17 : decode cJ1_indexOf_4cfef 17 = .ok (.arraylength, 1) := by decide +kernel
theorem dJ1_indexOf_4cfef_18 : decode cJ1_indexOf_4cfef 18 = .ok (.invokestatic 38, 3) := by decide +kernel
theorem dJ1_indexOf_4cfef_21 : decode cJ1_indexOf_4cfef 21 = .ok (.istore_n 3, 1) := by decide +kernel
theorem dJ1_indexOf_4cfef_22 : decode cJ1_indexOf_4cfef 22 = .ok (.iload_n 2, 1) := by decide +kernel
theorem dJ1_indexOf_4cfef_23 : decode cJ1_indexOf_4cfef 23 = .ok (.iload_n 3, 1) := by decide +kernel
theorem dJ1_indexOf_4cfef_24 : decode cJ1_indexOf_4cfef 24 = .ok (.if_icmp .lt 5, 3) := by decide +kernel
theorem dJ1_indexOf_4cfef_27 : decode cJ1_indexOf_4cfef 27 = .ok (.iconst (-1), 1) := by decide +kernel
theorem dJ1_indexOf_4cfef_28 : decode cJ1_indexOf_4cfef 28 = .ok (.ireturn, 1) := by decide +kernel
theorem dJ1_indexOf_4cfef_29 : decode cJ1_indexOf_4cfef 29 = .ok (.aload_n 0, 1) := by decide +kernel
theorem dJ1_indexOf_4cfef_30 : decode cJ1_indexOf_4cfef 30 = .ok (.iload_n 1, 1) := by decide +kernel
theorem dJ1_indexOf_4cfef_31 : decode cJ1_indexOf_4cfef 31 = .ok (.iload_n 2, 1) := by decide +kernel
theorem dJ1_indexOf_4cfef_32 : decode cJ1_indexOf_4cfef 32 = .ok (.iload_n 3, 1) := by decide +kernel
theorem dJ1_indexOf_4cfef_33 : decode cJ1_indexOf_4cfef 33 = .ok (.invokestatic 95, 3) := by decide +kernel
theorem dJ1_indexOf_4cfef_36 : decode cJ1_indexOf_4cfef 36 = .ok (.ireturn, 1) := by decide +kernel
theorem dJ1_indexOfChar_4cfef_0 : decode cJ1_indexOfChar_4cfef 0 = .ok (.iload_n 1, 1) := by decide +kernel
theorem dJ1_indexOfChar_4cfef_1 : decode cJ1_indexOfChar_4cfef 1 = .ok (.i2b, 1) := by decide +kernel
theorem dJ1_indexOfChar_4cfef_2 : decode cJ1_indexOfChar_4cfef 2 = .ok (.istore 4, 2) := by decide +kernel
theorem dJ1_indexOfChar_4cfef_4 : decode cJ1_indexOfChar_4cfef 4 = .ok (.iload_n 2, 1) := by decide +kernel
theorem dJ1_indexOfChar_4cfef_5 : decode cJ1_indexOfChar_4cfef 5 = .ok (.istore 5, 2) := by decide +kernel
theorem dJ1_indexOfChar_4cfef_7 : decode cJ1_indexOfChar_4cfef 7 = .ok (.iload 5, 2) := by decide +kernel
theorem dJ1_indexOfChar_4cfef_9 : decode cJ1_indexOfChar_4cfef 9 = .ok (.iload_n 3, 1) := by decide +kernel
theorem dJ1_indexOfChar_4cfef_10 : decode cJ1_indexOfChar_4cfef 10 = .ok (.if_icmp .ge 21, 3) := by decide +kernel
theorem dJ1_indexOfChar_4cfef_13 : decode cJ1_indexOfChar_4cfef 13 = .ok (.aload_n 0, 1) := by decide +kernel
theorem dJ1_indexOfChar_4cfef_14 : decode cJ1_indexOfChar_4cfef 14 = .ok (.iload 5, 2) := by decide +kernel
theorem dJ1_indexOfChar_4cfef_16 : decode cJ1_indexOfChar_4cfef 16 = .ok (.baload, 1) := by decide +kernel
theorem dJ1_indexOfChar_4cfef_17 : decode cJ1_indexOfChar_4cfef 17 = .ok (.iload 4, 2) := by decide +kernel
theorem dJ1_indexOfChar_4cfef_19 : decode cJ1_indexOfChar_4cfef 19 = .ok (.if_icmp .ne 6, 3) := by decide +kernel
theorem dJ1_indexOfChar_4cfef_22 : decode cJ1_indexOfChar_4cfef 22 = .ok (.iload 5, 2) := by decide +kernel
theorem dJ1_indexOfChar_4cfef_24 : decode cJ1_indexOfChar_4cfef 24 = .ok (.ireturn, 1) := by decide +kernel
theorem dJ1_indexOfChar_4cfef_25 : decode cJ1_indexOfChar_4cfef 25 = .ok (.iinc 5 1, 3) := by decide +kernel
theorem dJ1_indexOfChar_4cfef_28 : decode cJ1_indexOfChar_4cfef 28 = .ok (.goto (-21), 3) := by decide +kernel
theorem dJ1_indexOfChar_4cfef_31 : decode cJ1_indexOfChar_4cfef 31 = .ok (.iconst (-1), 1) := by decide +kernel
theorem dJ1_indexOfChar_4cfef_32 : decode cJ1_indexOfChar_4cfef 32 = .ok (.ireturn, 1) := by decide +kernel
theorem dJ2_getChar_3b067_0 : decode cJ2_getChar_3b067 0 = .ok (.getstatic 44, 3) := by decide +kernel
theorem dJ2_getChar_3b067_3 : decode cJ2_getChar_3b067 3 = .ok (.ifCond .ne 25, 3) := by decide +kernel
theorem dJ2_getChar_3b067_6 : decode cJ2_getChar_3b067 6 = .ok (.iload_n 1, 1) := by decide +kernel
theorem dJ2_getChar_3b067_7 : decode cJ2_getChar_3b067 7 = .ok (.ifCond .lt 11, 3) := by decide +kernel
theorem dJ2_getChar_3b067_10 : decode cJ2_getChar_3b067 10 = .ok (.iload_n 1, 1) := by decide +kernel
theorem dJ2_getChar_3b067_11 : decode cJ2_getChar_3b067 11 = .ok (.aload_n 0, 1) := by decide +kernel
theorem dJ2_getChar_3b067_12 : decode cJ2_getChar_3b067 12 = .ok (.invokestatic 48, 3) := by decide +kernel
theorem dJ2_getChar_3b067_15 : decode cJ2_getChar_3b067 15 = .ok (.if_icmp .lt 13, 3) := by decide +kernel
theorem dJ2_getChar_3b067_18 : decode cJ2_getChar_3b067 18 = .ok (.new 52, 3) := by decide +kernel
theorem dJ2_getChar_3b067_21 : decode cJ2_getChar_3b067 21 = .ok (.dup, 1) := by decide +kernel
theorem dJ2_getChar_3b067_22 : decode cJ2_getChar_3b067 22 = .ok (.ldc 54, 2) := by decide +kernel
theorem dJ2_getChar_3b067_24 : decode cJ2_getChar_3b067 24 = .ok (.invokespecial 56, 3) := by decide +kernel
theorem dJ2_getChar_3b067_27 : decode cJ2_getChar_3b067 27 = .ok (.athrow, 1) := by decide +kernel
theorem dJ2_getChar_3b067_28 : decode cJ2_getChar_3b067 28 = .ok (.iload_n 1, 1) := by decide +kernel
theorem dJ2_getChar_3b067_29 : decode cJ2_getChar_3b067 29 = .ok (.iconst 1, 1) := by decide +kernel
theorem dJ2_getChar_3b067_30 : decode cJ2_getChar_3b067 30 = .ok (.ishl, 1) := by decide +kernel
theorem dJ2_getChar_3b067_31 : decode cJ2_getChar_3b067 31 = .ok (.istore_n 1, 1) := by decide +kernel
theorem dJ2_getChar_3b067_32 : decode cJ2_getChar_3b067 32 = .ok (.aload_n 0, 1) := by decide +kernel
theorem dJ2_getChar_3b067_33 : decode cJ2_getChar_3b067 33 = .ok (.iload_n 1, 1) := by decide +kernel
theorem dJ2_getChar_3b067_34 : decode cJ2_getChar_3b067 34 = .ok (.iinc 1 1, 3) := by decide +kernel
theorem dJ2_getChar_3b067_37 : decode cJ2_getChar_3b067 37 = .ok (.baload, 1) := by decide +kernel
theorem dJ2_getChar_3b067_38 : decode cJ2_getChar_3b067 38 = .ok (.sipush 255, 3) := by decide +kernel
theorem dJ2_getChar_3b067_41 : decode cJ2_getChar_3b067 41 = .ok (.iand, 1) := by decide +kernel
theorem dJ2_getChar_3b067_42 : decode cJ2_getChar_3b067 42 = .ok (.getstatic 59, 3) := by decide +kernel
theorem dJ2_getChar_3b067_45 : decode cJ2_getChar_3b067 45 = .ok (.ishl, 1) := by decide +kernel
theorem dJ2_getChar_3b067_46 : decode cJ2_getChar_3b067 46 = .ok (.aload_n 0, 1) := by decide +kernel
theorem dJ2_getChar_3b067_47 : decode cJ2_getChar_3b067 47 = .ok (.iload_n 1, 1) := by decide +kernel
theorem dJ2_getChar_3b067_48 : decode cJ2_getChar_3b067 48 = .ok (.baload, 1) := by decide +kernel
theorem dJ2_getChar_3b067_49 : decode cJ2_getChar_3b067 49 = .ok (.sipush 255, 3) := by decide +kernel
theorem dJ2_getChar_3b067_52 : decode cJ2_getChar_3b067 52 = .ok (.iand, 1) := by decide +kernel
theorem dJ2_getChar_3b067_53 : decode cJ2_getChar_3b067 53 = .ok (.getstatic 63, 3) := by decide +kernel
theorem dJ2_getChar_3b067_56 : decode cJ2_getChar_3b067 56 = .ok (.ishl, 1) := by decide +kernel
theorem dJ2_getChar_3b067_57 : decode cJ2_getChar_3b067 57 = .ok (.ior, 1) := by decide +kernel
theorem dJ2_getChar_3b067_58 : decode cJ2_getChar_3b067 58 = .ok (.i2c, 1) := by decide +kernel
theorem dJ2_getChar_3b067_59 : decode cJ2_getChar_3b067 59 = .ok (.ireturn, 1) := by decide +kernel
theorem dJ2_length_9d52b_0 : decode cJ2_length_9d52b 0 = .ok (.aload_n 0, 1) := by decide +kernel
theorem dJ2_length_9d52b_1 : decode cJ2_length_9d52b 1 = .ok (.arraylength, 1) := by decide +kernel
theorem dJ2_length_9d52b_2 : decode cJ2_length_9d52b 2 = .ok (.iconst 1, 1) := by decide +kernel
theorem dJ2_length_9d52b_3 : decode cJ2_length_9d52b 3 = .ok (.ishr, 1) := by decide +kernel
theorem dJ2_length_9d52b_4 : decode cJ2_length_9d52b 4 = .ok (.ireturn, 1) := by decide +kernel
theorem dJ2_indexOf_4cfef_0 : decode cJ2_indexOf_4cfef 0 = .ok (.iload_n 2, 1) := by decide +kernel
theorem dJ2_indexOf_4cfef_1 : decode cJ2_indexOf_4cfef 1 = .ok (.iconst 0, 1) := by decide +kernel
theorem dJ2_indexOf_4cfef_2 : decode cJ2_indexOf_4cfef 2 = .ok (.invokestatic 224, 3) := by decide +kernel
theorem dJ2_indexOf_4cfef_5 : decode cJ2_indexOf_4cfef 5 = .ok (.istore_n 2, 1) := by decide +kernel
theorem dJ2_indexOf_4cfef_6 : decode cJ2_indexOf_4cfef 6 = .ok (.iload_n 3, 1) := by decide +kernel
theorem dJ2_indexOf_4cfef_7 : decode cJ2_indexOf_4cfef 7 = .ok (.aload_n 0, 1) := by decide +kernel
theorem dJ2_indexOf_4cfef_8 : decode cJ2_indexOf_4cfef 8 = .ok (.arraylength, 1) := by decide +kernel
theorem dJ2_indexOf_4cfef_9 : decode cJ2_indexOf_4cfef 9 = .ok (.iconst 1, 1) := by decide +kernel
theorem dJ2_indexOf_4cfef_10 : decode cJ2_indexOf_4cfef 10 = .ok (.ishr, 1) := by decide +kernel
theorem dJ2_indexOf_4cfef_11 : decode cJ2_indexOf_4cfef 11 = .ok (.invokestatic 183, 3) := by decide +kernel
theorem dJ2_indexOf_4cfef_14 : decode cJ2_indexOf_4cfef 14 = .ok (.istore_n 3, 1) := by decide +kernel
theorem dJ2_indexOf_4cfef_15 : decode cJ2_indexOf_4cfef 15 = .ok (.iload_n 2, 1) := by decide +kernel
theorem dJ2_indexOf_4cfef_16 : decode cJ2_indexOf_4cfef 16 = .ok (.iload_n 3, 1) := by decide +kernel
theorem dJ2_indexOf_4cfef_17 : decode cJ2_indexOf_4cfef 17 = .ok (.if_icmp .lt 5, 3) := by decide +kernel
theorem dJ2_indexOf_4cfef_20 : decode cJ2_indexOf_4cfef 20 = .ok (.iconst (-1), 1) := by decide +kernel
theorem dJ2_indexOf_4cfef_21 : decode cJ2_indexOf_4cfef 21 = .ok (.ireturn, 1) := by decide +kernel
theorem dJ2_indexOf_4cfef_22 : decode cJ2_indexOf_4cfef 22 = .ok (.iload_n 1, 1) := by decide +kernel
theorem dJ2_indexOf_4cfef_23 : decode cJ2_indexOf_4cfef 23 = .ok (.ldc 227, 2) := by decide +kernel
theorem dJ2_indexOf_4cfef_25 : decode cJ2_indexOf_4cfef 25 = .ok (.if_icmp .ge 11, 3) := by decide +kernel
theorem dJ2_indexOf_4cfef_28 : decode cJ2_indexOf_4cfef 28 = .ok (.aload_n 0, 1) := by decide +kernel
theorem dJ2_indexOf_4cfef_29 : decode cJ2_indexOf_4cfef 29 = .ok (.iload_n 1, 1) := by decide +kernel
theorem dJ2_indexOf_4cfef_30 : decode cJ2_indexOf_4cfef 30 = .ok (.iload_n 2, 1) := by decide +kernel
theorem dJ2_indexOf_4cfef_31 : decode cJ2_indexOf_4cfef 31 = .ok (.iload_n 3, 1) := by decide +kernel
theorem dJ2_indexOf_4cfef_32 : decode cJ2_indexOf_4cfef 32 = .ok (.invokestatic 228, 3) := by decide +kernel
theorem dJ2_indexOf_4cfef_35 : decode cJ2_indexOf_4cfef 35 = .ok (.ireturn, 1) := by decide +kernel
theorem dJ2_indexOf_4cfef_36 : decode cJ2_indexOf_4cfef 36 = .ok (.aload_n 0, 1) := by decide +kernel
theorem dJ2_indexOf_4cfef_37 : decode cJ2_indexOf_4cfef 37 = .ok (.iload_n 1, 1) := by decide +kernel
theorem dJ2_indexOf_4cfef_38 : decode cJ2_indexOf_4cfef 38 = .ok (.iload_n 2, 1) := by decide +kernel
theorem dJ2_indexOf_4cfef_39 : decode cJ2_indexOf_4cfef 39 = .ok (.iload_n 3, 1) := by decide +kernel
theorem dJ2_indexOf_4cfef_40 : decode cJ2_indexOf_4cfef 40 = .ok (.invokestatic 232, 3) := by decide +kernel
theorem dJ2_indexOf_4cfef_43 : decode cJ2_indexOf_4cfef 43 = .ok (.ireturn, 1) := by decide +kernel
theorem dJ2_indexOfChar_4cfef_0 : decode cJ2_indexOfChar_4cfef 0 = .ok (.iload_n 2, 1) := by decide +kernel
theorem dJ2_indexOfChar_4cfef_1 : decode cJ2_indexOfChar_4cfef 1 = .ok (.iload_n 3, 1) := by decide +kernel
theorem dJ2_indexOfChar_4cfef_2 : decode cJ2_indexOfChar_4cfef 2 = .ok (.aload_n 0, 1) := by decide +kernel
theorem dJ2_indexOfChar_4cfef_3 : decode cJ2_indexOfChar_4cfef 3 = .ok (.invokestatic 96, 3) := by decide +kernel
theorem dJ2_indexOfChar_4cfef_6 : decode cJ2_indexOfChar_4cfef 6 = .ok (.aload_n 0, 1) := by decide +kernel
theorem dJ2_indexOfChar_4cfef_7 : decode cJ2_indexOfChar_4cfef 7 = .ok (.iload_n 1, 1) := by decide +kernel
theorem dJ2_indexOfChar_4cfef_8 : decode cJ2_indexOfChar_4cfef 8 = .ok (.iload_n 2, 1) := by decide +kernel
theorem dJ2_indexOfChar_4cfef_9 : decode cJ2_indexOfChar_4cfef 9 = .ok (.iload_n 3, 1) := by decide +kernel
theorem dJ2_indexOfChar_4cfef_10 : decode cJ2_indexOfChar_4cfef 10 = .ok (.invokestatic 244, 3) := by decide +kernel
theorem dJ2_indexOfChar_4cfef_13 : decode cJ2_indexOfChar_4cfef 13 = .ok (.ireturn, 1) := by decide +kernel
theorem dJ2_indexOfCharUnsafe_4cfef_0 : decode cJ2_indexOfCharUnsafe_4cfef 0 = .ok (.iload_n 2, 1) := by decide +kernel
theorem dJ2_indexOfCharUnsafe_4cfef_1 : decode cJ2_indexOfCharUnsafe_4cfef 1 = .ok (.istore 4, 2) := by decide +kernel
theorem dJ2_indexOfCharUnsafe_4cfef_3 : decode cJ2_indexOfCharUnsafe_4cfef 3 = .ok (.iload 4, 2) := by decide +kernel
theorem dJ2_indexOfCharUnsafe_4cfef_5 : decode cJ2_indexOfCharUnsafe_4cfef 5 = .ok (.iload_n 3, 1) := by decide +kernel
theorem dJ2_indexOfCharUnsafe_4cfef_6 : decode cJ2_indexOfCharUnsafe_4cfef 6 = .ok (.if_icmp .ge 22, 3) := by decide +kernel
theorem dJ2_indexOfCharUnsafe_4cfef_9 : decode cJ2_indexOfCharUnsafe_4cfef 9 = .ok (.aload_n 0, 1) := by decide +kernel
theorem dJ2_indexOfCharUnsafe_4cfef_10 : decode cJ2_indexOfCharUnsafe_4cfef 10 = .ok (.iload 4, 2) := by decide +kernel
theorem dJ2_indexOfCharUnsafe_4cfef_12 : decode cJ2_indexOfCharUnsafe_4cfef 12 = .ok (.invokestatic 71, 3) := by decide +kernel
theorem dJ2_indexOfCharUnsafe_4cfef_15 : decode cJ2_indexOfCharUnsafe_4cfef 15 = .ok (.iload_n 1, 1) := by decide +kernel
theorem dJ2_indexOfCharUnsafe_4cfef_16 : decode cJ2_indexOfCharUnsafe_4cfef 16 = .ok (.if_icmp .ne 6, 3) := by decide +kernel
theorem dJ2_indexOfCharUnsafe_4cfef_19 : decode cJ2_indexOfCharUnsafe_4cfef 19 = .ok (.iload 4, 2) := by decide +kernel
theorem dJ2_indexOfCharUnsafe_4cfef_21 : decode cJ2_indexOfCharUnsafe_4cfef 21 = .ok (.ireturn, 1) := by decide +kernel
theorem dJ2_indexOfCharUnsafe_4cfef_22 : decode cJ2_indexOfCharUnsafe_4cfef 22 = .ok (.iinc 4 1, 3) := by decide +kernel
theorem dJ2_indexOfCharUnsafe_4cfef_25 : decode cJ2_indexOfCharUnsafe_4cfef 25 = .ok (.goto (-22), 3) := by decide +kernel
theorem dJ2_indexOfCharUnsafe_4cfef_28 : decode cJ2_indexOfCharUnsafe_4cfef 28 = .ok (.iconst (-1), 1) := by decide +kernel
theorem dJ2_indexOfCharUnsafe_4cfef_29 : decode cJ2_indexOfCharUnsafe_4cfef 29 = .ok (.ireturn, 1) := by decide +kernel
theorem dJ2_indexOfSupplementary_4cfef_0 : decode cJ2_indexOfSupplementary_4cfef 0 = .ok (.iload_n 1, 1) := by decide +kernel
theorem dJ2_indexOfSupplementary_4cfef_1 : decode cJ2_indexOfSupplementary_4cfef 1 = .ok (.invokestatic 164, 3) := by decide +kernel
theorem dJ2_indexOfSupplementary_4cfef_4 : decode cJ2_indexOfSupplementary_4cfef 4 = .ok (.ifCond .eq 65, 3) := by decide +kernel
theorem dJ2_indexOfSupplementary_4cfef_7 : decode cJ2_indexOfSupplementary_4cfef 7 = .ok (.iload_n 1, 1) := by decide +kernel
theorem dJ2_indexOfSupplementary_4cfef_8 : decode cJ2_indexOfSupplementary_4cfef 8 = .ok (.invokestatic 157, 3) := by decide +kernel
theorem dJ2_indexOfSupplementary_4cfef_11 : decode cJ2_indexOfSupplementary_4cfef 11 = .ok (.istore 4, 2) := by decide +kernel
theorem dJ2_indexOfSupplementary_4cfef_13 : decode cJ2_indexOfSupplementary_4cfef 13 = .ok (.iload_n 1, 1) := by decide +kernel
theorem dJ2_indexOfSupplementary_4cfef_14 : decode cJ2_indexOfSupplementary_4cfef 14 = .ok (.invokestatic 161, 3) := by decide +kernel
theorem dJ2_indexOfSupplementary_4cfef_17 : decode cJ2_indexOfSupplementary_4cfef 17 = .ok (.istore 5, 2) := by decide +kernel
theorem dJ2_indexOfSupplementary_4cfef_19 : decode cJ2_indexOfSupplementary_4cfef 19 = .ok (.iload_n 2, 1) := by decide +kernel
theorem dJ2_indexOfSupplementary_4cfef_20 : decode cJ2_indexOfSupplementary_4cfef 20 = .ok (.iload_n 3, 1) := by decide +kernel
theorem dJ2_indexOfSupplementary_4cfef_21 : decode cJ2_indexOfSupplementary_4cfef 21 = .ok (.aload_n 0, 1) := by decide +kernel
theorem dJ2_indexOfSupplementary_4cfef_22 : decode cJ2_indexOfSupplementary_4cfef 22 = .ok (.invokestatic 96, 3) := by decide +kernel
theorem dJ2_indexOfSupplementary_4cfef_25 : decode cJ2_indexOfSupplementary_4cfef 25 = .ok (.iload_n 2, 1) := by decide +kernel
theorem dJ2_indexOfSupplementary_4cfef_26 : decode cJ2_indexOfSupplementary_4cfef 26 = .ok (.istore 6, 2) := by decide +kernel
theorem dJ2_indexOfSupplementary_4cfef_28 : decode cJ2_indexOfSupplementary_4cfef 28 = .ok (.iload 6, 2) := by decide +kernel
theorem dJ2_indexOfSupplementary_4cfef_30 : decode cJ2_indexOfSupplementary_4cfef 30 = .ok (.iload_n 3, 1) := by decide +kernel
theorem dJ2_indexOfSupplementary_4cfef_31 : decode cJ2_indexOfSupplementary_4cfef 31 = .ok (.iconst 1, 1) := by decide +kernel
theorem dJ2_indexOfSupplementary_4cfef_32 : decode cJ2_indexOfSupplementary_4cfef 32 = .ok (.isub, 1) := by decide +kernel
theorem dJ2_indexOfSupplementary_4cfef_33 : decode cJ2_indexOfSupplementary_4cfef 33 = .ok (.if_icmp .ge 36, 3) := by decide +kernel
theorem dJ2_indexOfSupplementary_4cfef_36 : decode cJ2_indexOfSupplementary_4cfef 36 = .ok (.aload_n 0, 1) := by decide +kernel
theorem dJ2_indexOfSupplementary_4cfef_37 : decode cJ2_indexOfSupplementary_4cfef 37 = .ok (.iload 6, 2) := by decide +kernel
theorem dJ2_indexOfSupplementary_4cfef_39 : decode cJ2_indexOfSupplementary_4cfef 39 = .ok (.invokestatic 71, 3) := by decide +kernel
theorem dJ2_indexOfSupplementary_4cfef_42 : decode cJ2_indexOfSupplementary_4cfef 42 = .ok (.iload 4, 2) := by decide +kernel
theorem dJ2_indexOfSupplementary_4cfef_44 : decode cJ2_indexOfSupplementary_4cfef 44 = .ok (.if_icmp .ne 19, 3) := by decide +kernel
theorem dJ2_indexOfSupplementary_4cfef_47 : decode cJ2_indexOfSupplementary_4cfef 47 = .ok (.aload_n 0, 1) := by decide +kernel
theorem dJ2_indexOfSupplementary_4cfef_48 : decode cJ2_indexOfSupplementary_4cfef 48 = .ok (.iload 6, 2) := by decide +kernel
theorem dJ2_indexOfSupplementary_4cfef_50 : decode cJ2_indexOfSupplementary_4cfef 50 = .ok (.iconst 1, 1) := by decide +kernel
theorem dJ2_indexOfSupplementary_4cfef_51 : decode cJ2_indexOfSupplementary_4cfef 51 = .ok (.iadd, 1) := by decide +kernel
theorem dJ2_indexOfSupplementary_4cfef_52 : decode cJ2_indexOfSupplementary_4cfef 52 = .ok (.invokestatic 71, 3) := by decide +kernel
theorem dJ2_indexOfSupplementary_4cfef_55 : decode cJ2_indexOfSupplementary_4cfef 55 = .ok (.iload 5, 2) := by decide +kernel
theorem dJ2_indexOfSupplementary_4cfef_57 : decode cJ2_indexOfSupplementary_4cfef 57 = .ok (.if_icmp .ne 6, 3) := by decide +kernel
theorem dJ2_indexOfSupplementary_4cfef_60 : decode cJ2_indexOfSupplementary_4cfef 60 = .ok (.iload 6, 2) := by decide +kernel
theorem dJ2_indexOfSupplementary_4cfef_62 : decode cJ2_indexOfSupplementary_4cfef 62 = .ok (.ireturn, 1) := by decide +kernel
theorem dJ2_indexOfSupplementary_4cfef_63 : decode cJ2_indexOfSupplementary_4cfef 63 = .ok (.iinc 6 1, 3) := by decide +kernel
theorem dJ2_indexOfSupplementary_4cfef_66 : decode cJ2_indexOfSupplementary_4cfef 66 = .ok (.goto (-38), 3) := by decide +kernel
theorem dJ2_indexOfSupplementary_4cfef_69 : decode cJ2_indexOfSupplementary_4cfef 69 = .ok (.iconst (-1), 1) := by decide +kernel
theorem dJ2_indexOfSupplementary_4cfef_70 : decode cJ2_indexOfSupplementary_4cfef 70 = .ok (.ireturn, 1) := by decide +kernel
theorem dJ2_charAt_3b067_0 : decode cJ2_charAt_3b067 0 = .ok (.iload_n 1, 1) := by decide +kernel
theorem dJ2_charAt_3b067_1 : decode cJ2_charAt_3b067 1 = .ok (.aload_n 0, 1) := by decide +kernel
theorem dJ2_charAt_3b067_2 : decode cJ2_charAt_3b067 2 = .ok (.invokestatic 67, 3) := by decide +kernel
theorem dJ2_charAt_3b067_5 : decode cJ2_charAt_3b067 5 = .ok (.aload_n 0, 1) := by decide +kernel
theorem dJ2_charAt_3b067_6 : decode cJ2_charAt_3b067 6 = .ok (.iload_n 1, 1) := by decide +kernel
theorem dJ2_charAt_3b067_7 : decode cJ2_charAt_3b067 7 = .ok (.invokestatic 71, 3) := by decide +kernel
theorem dJ2_charAt_3b067_10 : decode cJ2_charAt_3b067 10 = .ok (.ireturn, 1) := by decide +kernel
theorem dJ2_checkIndex_2214a_0 : decode cJ2_checkIndex_2214a 0 = .ok (.iload_n 0, 1) := by decide +kernel
theorem dJ2_checkIndex_2214a_1 : decode cJ2_checkIndex_2214a 1 = .ok (.aload_n 1, 1) := by decide +kernel
theorem dJ2_checkIndex_2214a_2 : decode cJ2_checkIndex_2214a 2 = .ok (.invokestatic 48, 3) := by decide +kernel
theorem dJ2_checkIndex_2214a_5 : decode cJ2_checkIndex_2214a 5 = .ok (.invokestatic 414, 3) := by decide +kernel
theorem dJ2_checkIndex_2214a_8 : decode cJ2_checkIndex_2214a 8 = .ok (.return_, 1) := by decide +kernel
theorem dJ2_checkBoundsBeginEnd_d044e_0 : decode cJ2_checkBoundsBeginEnd_d044e 0 = .ok (.iload_n 0, 1) := by decide +kernel
theorem dJ2_checkBoundsBeginEnd_d044e_1 : decode cJ2_checkBoundsBeginEnd_d044e 1 = .ok (.iload_n 1, 1) := by decide +kernel
theorem dJ2_checkBoundsBeginEnd_d044e_2 : decode cJ2_checkBoundsBeginEnd_d044e 2 = .ok (.aload_n 2, 1) := by decide +kernel
theorem dJ2_checkBoundsBeginEnd_d044e_3 : decode cJ2_checkBoundsBeginEnd_d044e 3 = .ok (.invokestatic 48, 3) := by decide +kernel
theorem dJ2_checkBoundsBeginEnd_d044e_6 : decode cJ2_checkBoundsBeginEnd_d044e 6 = .ok (.invokestatic 241, 3) := by decide +kernel
theorem dJ2_checkBoundsBeginEnd_d044e_9 : decode cJ2_checkBoundsBeginEnd_d044e 9 = .ok (.return_, 1) := by decide +kernel
theorem dJ7_fill_53178_0 : decode cJ7_fill_53178 0 = .ok (.iconst 0, 1) := by decide +kernel
theorem dJ7_fill_53178_1 : decode cJ7_fill_53178 1 = .ok (.istore_n 2, 1) := by decide +kernel
theorem dJ7_fill_53178_2 : decode cJ7_fill_53178 2 = .ok (.aload_n 0, 1) := by decide +kernel
theorem dJ7_fill_53178_3 : decode cJ7_fill_53178 3 = .ok (.arraylength, 1) := by decide +kernel
theorem dJ7_fill_53178_4 : decode cJ7_fill_53178 4 = .ok (.istore_n 3, 1) := by decide +kernel
theorem dJ7_fill_53178_5 : decode cJ7_fill_53178 5 = .ok (.iload_n 2, 1) := by decide +kernel
theorem dJ7_fill_53178_6 : decode cJ7_fill_53178 6 = .ok (.iload_n 3, 1) := by decide +kernel
theorem dJ7_fill_53178_7 : decode cJ7_fill_53178 7 = .ok (.if_icmp .ge 13, 3) := by decide +kernel
theorem dJ7_fill_53178_10 : decode cJ7_fill_53178 10 = .ok (.aload_n 0, 1) := by decide +kernel
theorem dJ7_fill_53178_11 : decode cJ7_fill_53178 11 = .ok (.iload_n 2, 1) := by decide +kernel
theorem dJ7_fill_53178_12 : decode cJ7_fill_53178 12 = .ok (.iload_n 1, 1) := by decide +kernel
theorem dJ7_fill_53178_13 : decode cJ7_fill_53178 13 = .ok (.iastore, 1) := by decide +kernel
theorem dJ7_fill_53178_14 : decode cJ7_fill_53178 14 = .ok (.iinc 2 1, 3) := by decide +kernel
theorem dJ7_fill_53178_17 : decode cJ7_fill_53178 17 = .ok (.goto (-12), 3) := by decide +kernel
theorem dJ7_fill_53178_20 : decode cJ7_fill_53178 20 = .ok (.return_, 1) := by decide +kernel
theorem dJ7_copyOf_59c91_0 : decode cJ7_copyOf_59c91 0 = .ok (.iload_n 1, 1) := by decide +kernel
theorem dJ7_copyOf_59c91_1 : decode cJ7_copyOf_59c91 1 = .ok (.aload_n 0, 1) := by decide +kernel
theorem dJ7_copyOf_59c91_2 : decode cJ7_copyOf_59c91 2 = .ok (.arraylength, 1) := by decide +kernel
theorem dJ7_copyOf_59c91_3 : decode cJ7_copyOf_59c91 3 = .ok (.if_icmp .ne 11, 3) := by decide +kernel
theorem dJ7_copyOf_59c91_6 : decode cJ7_copyOf_59c91 6 = .ok (.aload_n 0, 1) := by decide +kernel
theorem dJ7_copyOf_59c91_7 : decode cJ7_copyOf_59c91 7 = .ok (.invokevirtual 316, 3) := by decide +kernel
theorem dJ7_copyOf_59c91_10 : decode cJ7_copyOf_59c91 10 = .ok (.checkcast 317, 3) := by decide +kernel
theorem dJ7_copyOf_59c91_13 : decode cJ7_copyOf_59c91 13 = .ok (.areturn, 1) := by decide +kernel
theorem dJ7_copyOf_59c91_14 : decode cJ7_copyOf_59c91 14 = .ok (.iload_n 1, 1) := by decide +kernel
theorem dJ7_copyOf_59c91_15 : decode cJ7_copyOf_59c91 15 = .ok (.newarray .int, 2) := by decide +kernel
theorem dJ7_copyOf_59c91_17 : decode cJ7_copyOf_59c91 17 = .ok (.astore_n 2, 1) := by decide +kernel
theorem dJ7_copyOf_59c91_18 : decode cJ7_copyOf_59c91 18 = .ok (.aload_n 0, 1) := by decide +kernel
theorem dJ7_copyOf_59c91_19 : decode cJ7_copyOf_59c91 19 = .ok (.iconst 0, 1) := by decide +kernel
theorem dJ7_copyOf_59c91_20 : decode cJ7_copyOf_59c91 20 = .ok (.aload_n 2, 1) := by decide +kernel
theorem dJ7_copyOf_59c91_21 : decode cJ7_copyOf_59c91 21 = .ok (.iconst 0, 1) := by decide +kernel
theorem dJ7_copyOf_59c91_22 : decode cJ7_copyOf_59c91 22 = .ok (.aload_n 0, 1) := by decide +kernel
theorem dJ7_copyOf_59c91_23 : decode cJ7_copyOf_59c91 23 = .ok (.arraylength, 1) := by decide +kernel
theorem dJ7_copyOf_59c91_24 : decode cJ7_copyOf_59c91 24 = .ok (.iload_n 1, 1) := by decide +kernel
theorem dJ7_copyOf_59c91_25 : decode cJ7_copyOf_59c91 25 = .ok (.invokestatic 304, 3) := by decide +kernel
theorem dJ7_copyOf_59c91_28 : decode cJ7_copyOf_59c91 28 = .ok (.invokestatic 150, 3) := by decide +kernel
theorem dJ7_copyOf_59c91_31 : decode cJ7_copyOf_59c91 31 = .ok (.aload_n 2, 1) := by decide +kernel
theorem dJ7_copyOf_59c91_32 : decode cJ7_copyOf_59c91 32 = .ok (.areturn, 1) := by decide +kernel
theorem dJ3_checkIndex_8e157_0 : decode cJ3_checkIndex_8e157 0 = .ok (.iload_n 0, 1) := by decide +kernel
theorem dJ3_checkIndex_8e157_1 : decode cJ3_checkIndex_8e157 1 = .ok (.ifCond .lt 8, 3) := by decide +kernel
theorem dJ3_checkIndex_8e157_4 : decode cJ3_checkIndex_8e157 4 = .ok (.iload_n 0, 1) := by decide +kernel
theorem dJ3_checkIndex_8e157_5 : decode cJ3_checkIndex_8e157 5 = .ok (.iload_n 1, 1) := by decide +kernel
theorem dJ3_checkIndex_8e157_6 : decode cJ3_checkIndex_8e157 6 = .ok (.if_icmp .lt 10, 3) := by decide +kernel
theorem dJ3_checkIndex_8e157_9 : decode cJ3_checkIndex_8e157 9 = .ok (.aload_n 2, 1) := by decide +kernel
theorem dJ3_checkIndex_8e157_10 : decode cJ3_checkIndex_8e157 10 = .ok (.iload_n 0, 1) := by decide +kernel
theorem dJ3_checkIndex_8e157_11 : decode cJ3_checkIndex_8e157 11 = .ok (.iload_n 1, 1) := by decide +kernel
theorem dJ3_checkIndex_8e157_12 : decode cJ3_checkIndex_8e157 12 = .ok (.invokestatic 95, 3) := by decide +kernel
theorem dJ3_checkIndex_8e157_15 : decode cJ3_checkIndex_8e157 15 = .ok (.athrow, 1) := by decide +kernel
theorem dJ3_checkIndex_8e157_16 : decode cJ3_checkIndex_8e157 16 = .ok (.iload_n 0, 1) := by decide +kernel
theorem dJ3_checkIndex_8e157_17 : decode cJ3_checkIndex_8e157 17 = .ok (.ireturn, 1) := by decide +kernel
theorem dJ3_checkFromToIndex_8c36e_0 : decode cJ3_checkFromToIndex_8c36e 0 = .ok (.iload_n 0, 1) := by decide +kernel
theorem dJ3_checkFromToIndex_8c36e_1 : decode cJ3_checkFromToIndex_8c36e 1 = .ok (.ifCond .lt 13, 3) := by decide +kernel
theorem dJ3_checkFromToIndex_8c36e_4 : decode cJ3_checkFromToIndex_8c36e 4 = .ok (.iload_n 0, 1) := by decide +kernel
theorem dJ3_checkFromToIndex_8c36e_5 : decode cJ3_checkFromToIndex_8c36e 5 = .ok (.iload_n 1, 1) := by decide +kernel
theorem dJ3_checkFromToIndex_8c36e_6 : decode cJ3_checkFromToIndex_8c36e 6 = .ok (.if_icmp .gt 8, 3) := by decide +kernel
theorem dJ3_checkFromToIndex_8c36e_9 : decode cJ3_checkFromToIndex_8c36e 9 = .ok (.iload_n 1, 1) := by decide +kernel
theorem dJ3_checkFromToIndex_8c36e_10 : decode cJ3_checkFromToIndex_8c36e 10 = .ok (.iload_n 2, 1) := by decide +kernel
theorem dJ3_checkFromToIndex_8c36e_11 : decode cJ3_checkFromToIndex_8c36e 11 = .ok (.if_icmp .le 11, 3) := by decide +kernel
theorem dJ3_checkFromToIndex_8c36e_14 : decode cJ3_checkFromToIndex_8c36e 14 = .ok (.aload_n 3, 1) := by decide +kernel
theorem dJ3_checkFromToIndex_8c36e_15 : decode cJ3_checkFromToIndex_8c36e 15 = .ok (.iload_n 0, 1) := by decide +kernel
theorem dJ3_checkFromToIndex_8c36e_16 : decode cJ3_checkFromToIndex_8c36e 16 = .ok (.iload_n 1, 1) := by decide +kernel
theorem dJ3_checkFromToIndex_8c36e_17 : decode cJ3_checkFromToIndex_8c36e 17 = .ok (.iload_n 2, 1) := by decide +kernel
theorem dJ3_checkFromToIndex_8c36e_18 : decode cJ3_checkFromToIndex_8c36e 18 = .ok (.invokestatic 99, 3) := by decide +kernel
theorem dJ3_checkFromToIndex_8c36e_21 : decode cJ3_checkFromToIndex_8c36e 21 = .ok (.athrow, 1) := by decide +kernel
theorem dJ3_checkFromToIndex_8c36e_22 : decode cJ3_checkFromToIndex_8c36e 22 = .ok (.iload_n 0, 1) := by decide +kernel
theorem dJ3_checkFromToIndex_8c36e_23 : decode cJ3_checkFromToIndex_8c36e 23 = .ok (.ireturn, 1) := by decide +kernel
theorem dL_law_0 : decode cL_law 0 = .ok (.new 7, 3) := by decide +kernel
theorem dL_law_3 : decode cL_law 3 = .ok (.dup, 1) := by decide +kernel
theorem dL_law_4 : decode cL_law 4 = .ok (.invokespecial 9, 3) := by decide +kernel
theorem dL_law_7 : decode cL_law 7 = .ok (.astore_n 1, 1) := by decide +kernel
theorem dL_law_8 : decode cL_law 8 = .ok (.new 10, 3) := by decide +kernel
theorem dL_law_11 : decode cL_law 11 = .ok (.dup, 1) := by decide +kernel
theorem dL_law_12 : decode cL_law 12 = .ok (.invokespecial 12, 3) := by decide +kernel
theorem dL_law_15 : decode cL_law 15 = .ok (.astore_n 2, 1) := by decide +kernel
theorem dL_law_16 : decode cL_law 16 = .ok (.iconst 0, 1) := by decide +kernel
theorem dL_law_17 : decode cL_law 17 = .ok (.istore_n 3, 1) := by decide +kernel
theorem dL_law_18 : decode cL_law 18 = .ok (.iload_n 3, 1) := by decide +kernel
theorem dL_law_19 : decode cL_law 19 = .ok (.aload_n 0, 1) := by decide +kernel
theorem dL_law_20 : decode cL_law 20 = .ok (.arraylength, 1) := by decide +kernel
theorem dL_law_21 : decode cL_law 21 = .ok (.bipush 6, 2) := by decide +kernel
theorem dL_law_23 : decode cL_law 23 = .ok (.isub, 1) := by decide +kernel
theorem dL_law_24 : decode cL_law 24 = .ok (.if_icmp .gt 1218, 3) := by decide +kernel
theorem dL_law_27 : decode cL_law 27 = .ok (.aload_n 0, 1) := by decide +kernel
theorem dL_law_28 : decode cL_law 28 = .ok (.iload_n 3, 1) := by decide +kernel
theorem dL_law_29 : decode cL_law 29 = .ok (.iaload, 1) := by decide +kernel
theorem dL_law_30 : decode cL_law 30 = .ok (.bipush 63, 2) := by decide +kernel
theorem dL_law_32 : decode cL_law 32 = .ok (.iand, 1) := by decide +kernel
theorem dL_law_33 : decode cL_law 33 = .ok (.tableswitch 1203 0 33 #[151, 214, 237, 250, 263, 286, 319, 362, 395, 428, 451, 464, 497, 520, 543, 556, 599, 632, 685, 728, 741, 804, 847, 880, 913, 926, 969, 992, 1025, 1068, 1091, 1134, 1157, 1180], 151) := by decide +kernel
theorem dL_law_184 : decode cL_law 184 = .ok (.aload_n 1, 1) := by decide +kernel
theorem dL_law_185 : decode cL_law 185 = .ok (.aload_n 0, 1) := by decide +kernel
theorem dL_law_186 : decode cL_law 186 = .ok (.iload_n 3, 1) := by decide +kernel
theorem dL_law_187 : decode cL_law 187 = .ok (.iconst 1, 1) := by decide +kernel
theorem dL_law_188 : decode cL_law 188 = .ok (.iadd, 1) := by decide +kernel
theorem dL_law_189 : decode cL_law 189 = .ok (.iaload, 1) := by decide +kernel
theorem dL_law_190 : decode cL_law 190 = .ok (.aload_n 0, 1) := by decide +kernel
theorem dL_law_191 : decode cL_law 191 = .ok (.iload_n 3, 1) := by decide +kernel
theorem dL_law_192 : decode cL_law 192 = .ok (.iconst 2, 1) := by decide +kernel
theorem dL_law_193 : decode cL_law 193 = .ok (.iadd, 1) := by decide +kernel
theorem dL_law_194 : decode cL_law 194 = .ok (.iaload, 1) := by decide +kernel
theorem dL_law_195 : decode cL_law 195 = .ok (.aload_n 0, 1) := by decide +kernel
theorem dL_law_196 : decode cL_law 196 = .ok (.iload_n 3, 1) := by decide +kernel
theorem dL_law_197 : decode cL_law 197 = .ok (.iconst 3, 1) := by decide +kernel
theorem dL_law_198 : decode cL_law 198 = .ok (.iadd, 1) := by decide +kernel
theorem dL_law_199 : decode cL_law 199 = .ok (.iaload, 1) := by decide +kernel
theorem dL_law_200 : decode cL_law 200 = .ok (.aload_n 0, 1) := by decide +kernel
theorem dL_law_201 : decode cL_law 201 = .ok (.iload_n 3, 1) := by decide +kernel
theorem dL_law_202 : decode cL_law 202 = .ok (.iconst 4, 1) := by decide +kernel
theorem dL_law_203 : decode cL_law 203 = .ok (.iadd, 1) := by decide +kernel
theorem dL_law_204 : decode cL_law 204 = .ok (.iaload, 1) := by decide +kernel
theorem dL_law_205 : decode cL_law 205 = .ok (.aload_n 0, 1) := by decide +kernel
theorem dL_law_206 : decode cL_law 206 = .ok (.iload_n 3, 1) := by decide +kernel
theorem dL_law_207 : decode cL_law 207 = .ok (.iconst 5, 1) := by decide +kernel
theorem dL_law_208 : decode cL_law 208 = .ok (.iadd, 1) := by decide +kernel
theorem dL_law_209 : decode cL_law 209 = .ok (.iaload, 1) := by decide +kernel
theorem dL_law_210 : decode cL_law 210 = .ok (.invokevirtual 13, 3) := by decide +kernel
theorem dL_law_213 : decode cL_law 213 = .ok (.aload_n 2, 1) := by decide +kernel
theorem dL_law_214 : decode cL_law 214 = .ok (.aload_n 0, 1) := by decide +kernel
theorem dL_law_215 : decode cL_law 215 = .ok (.iload_n 3, 1) := by decide +kernel
theorem dL_law_216 : decode cL_law 216 = .ok (.iconst 1, 1) := by decide +kernel
theorem dL_law_217 : decode cL_law 217 = .ok (.iadd, 1) := by decide +kernel
theorem dL_law_218 : decode cL_law 218 = .ok (.iaload, 1) := by decide +kernel
theorem dL_law_219 : decode cL_law 219 = .ok (.aload_n 0, 1) := by decide +kernel
theorem dL_law_220 : decode cL_law 220 = .ok (.iload_n 3, 1) := by decide +kernel
theorem dL_law_221 : decode cL_law 221 = .ok (.iconst 2, 1) := by decide +kernel
theorem dL_law_222 : decode cL_law 222 = .ok (.iadd, 1) := by decide +kernel
theorem dL_law_223 : decode cL_law 223 = .ok (.iaload, 1) := by decide +kernel
theorem dL_law_224 : decode cL_law 224 = .ok (.aload_n 0, 1) := by decide +kernel
theorem dL_law_225 : decode cL_law 225 = .ok (.iload_n 3, 1) := by decide +kernel
theorem dL_law_226 : decode cL_law 226 = .ok (.iconst 3, 1) := by decide +kernel
theorem dL_law_227 : decode cL_law 227 = .ok (.iadd, 1) := by decide +kernel
theorem dL_law_228 : decode cL_law 228 = .ok (.iaload, 1) := by decide +kernel
theorem dL_law_229 : decode cL_law 229 = .ok (.aload_n 0, 1) := by decide +kernel
theorem dL_law_230 : decode cL_law 230 = .ok (.iload_n 3, 1) := by decide +kernel
theorem dL_law_231 : decode cL_law 231 = .ok (.iconst 4, 1) := by decide +kernel
theorem dL_law_232 : decode cL_law 232 = .ok (.iadd, 1) := by decide +kernel
theorem dL_law_233 : decode cL_law 233 = .ok (.iaload, 1) := by decide +kernel
theorem dL_law_234 : decode cL_law 234 = .ok (.aload_n 0, 1) := by decide +kernel
theorem dL_law_235 : decode cL_law 235 = .ok (.iload_n 3, 1) := by decide +kernel
theorem dL_law_236 : decode cL_law 236 = .ok (.iconst 5, 1) := by decide +kernel
theorem dL_law_237 : decode cL_law 237 = .ok (.iadd, 1) := by decide +kernel
theorem dL_law_238 : decode cL_law 238 = .ok (.iaload, 1) := by decide +kernel
theorem dL_law_239 : decode cL_law 239 = .ok (.invokevirtual 17, 3) := by decide +kernel
theorem dL_law_242 : decode cL_law 242 = .ok (.if_icmp .eq 994, 3) := by decide +kernel
theorem dL_law_245 : decode cL_law 245 = .ok (.iconst 0, 1) := by decide +kernel
theorem dL_law_246 : decode cL_law 246 = .ok (.ireturn, 1) := by decide +kernel
theorem dL_law_247 : decode cL_law 247 = .ok (.aload_n 1, 1) := by decide +kernel
theorem dL_law_248 : decode cL_law 248 = .ok (.aload_n 0, 1) := by decide +kernel
theorem dL_law_249 : decode cL_law 249 = .ok (.iload_n 3, 1) := by decide +kernel
theorem dL_law_250 : decode cL_law 250 = .ok (.iconst 1, 1) := by decide +kernel
theorem dL_law_251 : decode cL_law 251 = .ok (.iadd, 1) := by decide +kernel
theorem dL_law_252 : decode cL_law 252 = .ok (.iaload, 1) := by decide +kernel
theorem dL_law_253 : decode cL_law 253 = .ok (.invokevirtual 18, 3) := by decide +kernel
theorem dL_law_256 : decode cL_law 256 = .ok (.aload_n 2, 1) := by decide +kernel
theorem dL_law_257 : decode cL_law 257 = .ok (.aload_n 0, 1) := by decide +kernel
theorem dL_law_258 : decode cL_law 258 = .ok (.iload_n 3, 1) := by decide +kernel
theorem dL_law_259 : decode cL_law 259 = .ok (.iconst 1, 1) := by decide +kernel
theorem dL_law_260 : decode cL_law 260 = .ok (.iadd, 1) := by decide +kernel
theorem dL_law_261 : decode cL_law 261 = .ok (.iaload, 1) := by decide +kernel
theorem dL_law_262 : decode cL_law 262 = .ok (.invokevirtual 22, 3) := by decide +kernel
theorem dL_law_265 : decode cL_law 265 = .ok (.if_icmp .eq 971, 3) := by decide +kernel
theorem dL_law_268 : decode cL_law 268 = .ok (.iconst 0, 1) := by decide +kernel
theorem dL_law_269 : decode cL_law 269 = .ok (.ireturn, 1) := by decide +kernel
theorem dL_law_270 : decode cL_law 270 = .ok (.aload_n 1, 1) := by decide +kernel
theorem dL_law_271 : decode cL_law 271 = .ok (.invokevirtual 23, 3) := by decide +kernel
theorem dL_law_274 : decode cL_law 274 = .ok (.aload_n 2, 1) := by decide +kernel
theorem dL_law_275 : decode cL_law 275 = .ok (.invokevirtual 27, 3) := by decide +kernel
theorem dL_law_278 : decode cL_law 278 = .ok (.if_icmp .eq 958, 3) := by decide +kernel
theorem dL_law_281 : decode cL_law 281 = .ok (.iconst 0, 1) := by decide +kernel
theorem dL_law_282 : decode cL_law 282 = .ok (.ireturn, 1) := by decide +kernel
theorem dL_law_283 : decode cL_law 283 = .ok (.aload_n 1, 1) := by decide +kernel
theorem dL_law_284 : decode cL_law 284 = .ok (.invokevirtual 28, 3) := by decide +kernel
theorem dL_law_287 : decode cL_law 287 = .ok (.aload_n 2, 1) := by decide +kernel
theorem dL_law_288 : decode cL_law 288 = .ok (.invokevirtual 31, 3) := by decide +kernel
theorem dL_law_291 : decode cL_law 291 = .ok (.if_icmp .eq 945, 3) := by decide +kernel
theorem dL_law_294 : decode cL_law 294 = .ok (.iconst 0, 1) := by decide +kernel
theorem dL_law_295 : decode cL_law 295 = .ok (.ireturn, 1) := by decide +kernel
theorem dL_law_296 : decode cL_law 296 = .ok (.aload_n 1, 1) := by decide +kernel
theorem dL_law_297 : decode cL_law 297 = .ok (.aload_n 0, 1) := by decide +kernel
theorem dL_law_298 : decode cL_law 298 = .ok (.iload_n 3, 1) := by decide +kernel
theorem dL_law_299 : decode cL_law 299 = .ok (.iconst 1, 1) := by decide +kernel
theorem dL_law_300 : decode cL_law 300 = .ok (.iadd, 1) := by decide +kernel
theorem dL_law_301 : decode cL_law 301 = .ok (.iaload, 1) := by decide +kernel
theorem dL_law_302 : decode cL_law 302 = .ok (.invokevirtual 32, 3) := by decide +kernel
theorem dL_law_305 : decode cL_law 305 = .ok (.aload_n 2, 1) := by decide +kernel
theorem dL_law_306 : decode cL_law 306 = .ok (.aload_n 0, 1) := by decide +kernel
theorem dL_law_307 : decode cL_law 307 = .ok (.iload_n 3, 1) := by decide +kernel
theorem dL_law_308 : decode cL_law 308 = .ok (.iconst 1, 1) := by decide +kernel
theorem dL_law_309 : decode cL_law 309 = .ok (.iadd, 1) := by decide +kernel
theorem dL_law_310 : decode cL_law 310 = .ok (.iaload, 1) := by decide +kernel
theorem dL_law_311 : decode cL_law 311 = .ok (.invokevirtual 35, 3) := by decide +kernel
theorem dL_law_314 : decode cL_law 314 = .ok (.if_icmp .eq 922, 3) := by decide +kernel
theorem dL_law_317 : decode cL_law 317 = .ok (.iconst 0, 1) := by decide +kernel
theorem dL_law_318 : decode cL_law 318 = .ok (.ireturn, 1) := by decide +kernel
theorem dL_law_319 : decode cL_law 319 = .ok (.aload_n 1, 1) := by decide +kernel
theorem dL_law_320 : decode cL_law 320 = .ok (.aload_n 0, 1) := by decide +kernel
theorem dL_law_321 : decode cL_law 321 = .ok (.iload_n 3, 1) := by decide +kernel
theorem dL_law_322 : decode cL_law 322 = .ok (.iconst 1, 1) := by decide +kernel
theorem dL_law_323 : decode cL_law 323 = .ok (.iadd, 1) := by decide +kernel
theorem dL_law_324 : decode cL_law 324 = .ok (.iaload, 1) := by decide +kernel
theorem dL_law_325 : decode cL_law 325 = .ok (.aload_n 0, 1) := by decide +kernel
theorem dL_law_326 : decode cL_law 326 = .ok (.iload_n 3, 1) := by decide +kernel
theorem dL_law_327 : decode cL_law 327 = .ok (.iconst 2, 1) := by decide +kernel
theorem dL_law_328 : decode cL_law 328 = .ok (.iadd, 1) := by decide +kernel
theorem dL_law_329 : decode cL_law 329 = .ok (.iaload, 1) := by decide +kernel
theorem dL_law_330 : decode cL_law 330 = .ok (.invokevirtual 36, 3) := by decide +kernel
theorem dL_law_333 : decode cL_law 333 = .ok (.aload_n 2, 1) := by decide +kernel
theorem dL_law_334 : decode cL_law 334 = .ok (.aload_n 0, 1) := by decide +kernel
theorem dL_law_335 : decode cL_law 335 = .ok (.iload_n 3, 1) := by decide +kernel
theorem dL_law_336 : decode cL_law 336 = .ok (.iconst 1, 1) := by decide +kernel
theorem dL_law_337 : decode cL_law 337 = .ok (.iadd, 1) := by decide +kernel
theorem dL_law_338 : decode cL_law 338 = .ok (.iaload, 1) := by decide +kernel
theorem dL_law_339 : decode cL_law 339 = .ok (.aload_n 0, 1) := by decide +kernel
theorem dL_law_340 : decode cL_law 340 = .ok (.iload_n 3, 1) := by decide +kernel
theorem dL_law_341 : decode cL_law 341 = .ok (.iconst 2, 1) := by decide +kernel
theorem dL_law_342 : decode cL_law 342 = .ok (.iadd, 1) := by decide +kernel
theorem dL_law_343 : decode cL_law 343 = .ok (.iaload, 1) := by decide +kernel
theorem dL_law_344 : decode cL_law 344 = .ok (.invokevirtual 40, 3) := by decide +kernel
theorem dL_law_347 : decode cL_law 347 = .ok (.if_icmp .eq 889, 3) := by decide +kernel
theorem dL_law_350 : decode cL_law 350 = .ok (.iconst 0, 1) := by decide +kernel
theorem dL_law_351 : decode cL_law 351 = .ok (.ireturn, 1) := by decide +kernel
theorem dL_law_352 : decode cL_law 352 = .ok (.aload_n 1, 1) := by decide +kernel
theorem dL_law_353 : decode cL_law 353 = .ok (.aload_n 0, 1) := by decide +kernel
theorem dL_law_354 : decode cL_law 354 = .ok (.iload_n 3, 1) := by decide +kernel
theorem dL_law_355 : decode cL_law 355 = .ok (.iconst 1, 1) := by decide +kernel
theorem dL_law_356 : decode cL_law 356 = .ok (.iadd, 1) := by decide +kernel
theorem dL_law_357 : decode cL_law 357 = .ok (.iaload, 1) := by decide +kernel
theorem dL_law_358 : decode cL_law 358 = .ok (.aload_n 0, 1) := by decide +kernel
theorem dL_law_359 : decode cL_law 359 = .ok (.iload_n 3, 1) := by decide +kernel
theorem dL_law_360 : decode cL_law 360 = .ok (.iconst 2, 1) := by decide +kernel
theorem dL_law_361 : decode cL_law 361 = .ok (.iadd, 1) := by decide +kernel
theorem dL_law_362 : decode cL_law 362 = .ok (.iaload, 1) := by decide +kernel
theorem dL_law_363 : decode cL_law 363 = .ok (.aload_n 0, 1) := by decide +kernel
theorem dL_law_364 : decode cL_law 364 = .ok (.iload_n 3, 1) := by decide +kernel
theorem dL_law_365 : decode cL_law 365 = .ok (.iconst 3, 1) := by decide +kernel
theorem dL_law_366 : decode cL_law 366 = .ok (.iadd, 1) := by decide +kernel
theorem dL_law_367 : decode cL_law 367 = .ok (.iaload, 1) := by decide +kernel
theorem dL_law_368 : decode cL_law 368 = .ok (.invokevirtual 41, 3) := by decide +kernel
theorem dL_law_371 : decode cL_law 371 = .ok (.aload_n 2, 1) := by decide +kernel
theorem dL_law_372 : decode cL_law 372 = .ok (.aload_n 0, 1) := by decide +kernel
theorem dL_law_373 : decode cL_law 373 = .ok (.iload_n 3, 1) := by decide +kernel
theorem dL_law_374 : decode cL_law 374 = .ok (.iconst 1, 1) := by decide +kernel
theorem dL_law_375 : decode cL_law 375 = .ok (.iadd, 1) := by decide +kernel
theorem dL_law_376 : decode cL_law 376 = .ok (.iaload, 1) := by decide +kernel
theorem dL_law_377 : decode cL_law 377 = .ok (.aload_n 0, 1) := by decide +kernel
theorem dL_law_378 : decode cL_law 378 = .ok (.iload_n 3, 1) := by decide +kernel
theorem dL_law_379 : decode cL_law 379 = .ok (.iconst 2, 1) := by decide +kernel
theorem dL_law_380 : decode cL_law 380 = .ok (.iadd, 1) := by decide +kernel
theorem dL_law_381 : decode cL_law 381 = .ok (.iaload, 1) := by decide +kernel
theorem dL_law_382 : decode cL_law 382 = .ok (.aload_n 0, 1) := by decide +kernel
theorem dL_law_383 : decode cL_law 383 = .ok (.iload_n 3, 1) := by decide +kernel
theorem dL_law_384 : decode cL_law 384 = .ok (.iconst 3, 1) := by decide +kernel
theorem dL_law_385 : decode cL_law 385 = .ok (.iadd, 1) := by decide +kernel
theorem dL_law_386 : decode cL_law 386 = .ok (.iaload, 1) := by decide +kernel
theorem dL_law_387 : decode cL_law 387 = .ok (.invokevirtual 45, 3) := by decide +kernel
theorem dL_law_390 : decode cL_law 390 = .ok (.if_icmp .eq 846, 3) := by decide +kernel
theorem dL_law_393 : decode cL_law 393 = .ok (.iconst 0, 1) := by decide +kernel
theorem dL_law_394 : decode cL_law 394 = .ok (.ireturn, 1) := by decide +kernel
theorem dL_law_395 : decode cL_law 395 = .ok (.aload_n 1, 1) := by decide +kernel
theorem dL_law_396 : decode cL_law 396 = .ok (.aload_n 0, 1) := by decide +kernel
theorem dL_law_397 : decode cL_law 397 = .ok (.iload_n 3, 1) := by decide +kernel
theorem dL_law_398 : decode cL_law 398 = .ok (.iconst 1, 1) := by decide +kernel
theorem dL_law_399 : decode cL_law 399 = .ok (.iadd, 1) := by decide +kernel
theorem dL_law_400 : decode cL_law 400 = .ok (.iaload, 1) := by decide +kernel
theorem dL_law_401 : decode cL_law 401 = .ok (.aload_n 0, 1) := by decide +kernel
theorem dL_law_402 : decode cL_law 402 = .ok (.iload_n 3, 1) := by decide +kernel
theorem dL_law_403 : decode cL_law 403 = .ok (.iconst 2, 1) := by decide +kernel
theorem dL_law_404 : decode cL_law 404 = .ok (.iadd, 1) := by decide +kernel
theorem dL_law_405 : decode cL_law 405 = .ok (.iaload, 1) := by decide +kernel
theorem dL_law_406 : decode cL_law 406 = .ok (.invokevirtual 46, 3) := by decide +kernel
theorem dL_law_409 : decode cL_law 409 = .ok (.aload_n 2, 1) := by decide +kernel
theorem dL_law_410 : decode cL_law 410 = .ok (.aload_n 0, 1) := by decide +kernel
theorem dL_law_411 : decode cL_law 411 = .ok (.iload_n 3, 1) := by decide +kernel
theorem dL_law_412 : decode cL_law 412 = .ok (.iconst 1, 1) := by decide +kernel
theorem dL_law_413 : decode cL_law 413 = .ok (.iadd, 1) := by decide +kernel
theorem dL_law_414 : decode cL_law 414 = .ok (.iaload, 1) := by decide +kernel
theorem dL_law_415 : decode cL_law 415 = .ok (.aload_n 0, 1) := by decide +kernel
theorem dL_law_416 : decode cL_law 416 = .ok (.iload_n 3, 1) := by decide +kernel
theorem dL_law_417 : decode cL_law 417 = .ok (.iconst 2, 1) := by decide +kernel
theorem dL_law_418 : decode cL_law 418 = .ok (.iadd, 1) := by decide +kernel
theorem dL_law_419 : decode cL_law 419 = .ok (.iaload, 1) := by decide +kernel
theorem dL_law_420 : decode cL_law 420 = .ok (.invokevirtual 49, 3) := by decide +kernel
theorem dL_law_423 : decode cL_law 423 = .ok (.if_icmp .eq 813, 3) := by decide +kernel
theorem dL_law_426 : decode cL_law 426 = .ok (.iconst 0, 1) := by decide +kernel
theorem dL_law_427 : decode cL_law 427 = .ok (.ireturn, 1) := by decide +kernel
theorem dL_law_428 : decode cL_law 428 = .ok (.aload_n 1, 1) := by decide +kernel
theorem dL_law_429 : decode cL_law 429 = .ok (.aload_n 0, 1) := by decide +kernel
theorem dL_law_430 : decode cL_law 430 = .ok (.iload_n 3, 1) := by decide +kernel
theorem dL_law_431 : decode cL_law 431 = .ok (.iconst 1, 1) := by decide +kernel
theorem dL_law_432 : decode cL_law 432 = .ok (.iadd, 1) := by decide +kernel
theorem dL_law_433 : decode cL_law 433 = .ok (.iaload, 1) := by decide +kernel
theorem dL_law_434 : decode cL_law 434 = .ok (.aload_n 0, 1) := by decide +kernel
theorem dL_law_435 : decode cL_law 435 = .ok (.iload_n 3, 1) := by decide +kernel
theorem dL_law_436 : decode cL_law 436 = .ok (.iconst 2, 1) := by decide +kernel
theorem dL_law_437 : decode cL_law 437 = .ok (.iadd, 1) := by decide +kernel
theorem dL_law_438 : decode cL_law 438 = .ok (.iaload, 1) := by decide +kernel
theorem dL_law_439 : decode cL_law 439 = .ok (.invokevirtual 50, 3) := by decide +kernel
theorem dL_law_442 : decode cL_law 442 = .ok (.aload_n 2, 1) := by decide +kernel
theorem dL_law_443 : decode cL_law 443 = .ok (.aload_n 0, 1) := by decide +kernel
theorem dL_law_444 : decode cL_law 444 = .ok (.iload_n 3, 1) := by decide +kernel
theorem dL_law_445 : decode cL_law 445 = .ok (.iconst 1, 1) := by decide +kernel
theorem dL_law_446 : decode cL_law 446 = .ok (.iadd, 1) := by decide +kernel
theorem dL_law_447 : decode cL_law 447 = .ok (.iaload, 1) := by decide +kernel
theorem dL_law_448 : decode cL_law 448 = .ok (.aload_n 0, 1) := by decide +kernel
theorem dL_law_449 : decode cL_law 449 = .ok (.iload_n 3, 1) := by decide +kernel
theorem dL_law_450 : decode cL_law 450 = .ok (.iconst 2, 1) := by decide +kernel
theorem dL_law_451 : decode cL_law 451 = .ok (.iadd, 1) := by decide +kernel
theorem dL_law_452 : decode cL_law 452 = .ok (.iaload, 1) := by decide +kernel
theorem dL_law_453 : decode cL_law 453 = .ok (.invokevirtual 53, 3) := by decide +kernel
theorem dL_law_456 : decode cL_law 456 = .ok (.if_icmp .eq 780, 3) := by decide +kernel
theorem dL_law_459 : decode cL_law 459 = .ok (.iconst 0, 1) := by decide +kernel
theorem dL_law_460 : decode cL_law 460 = .ok (.ireturn, 1) := by decide +kernel
theorem dL_law_461 : decode cL_law 461 = .ok (.aload_n 1, 1) := by decide +kernel
theorem dL_law_462 : decode cL_law 462 = .ok (.aload_n 0, 1) := by decide +kernel
theorem dL_law_463 : decode cL_law 463 = .ok (.iload_n 3, 1) := by decide +kernel
theorem dL_law_464 : decode cL_law 464 = .ok (.iconst 1, 1) := by decide +kernel
theorem dL_law_465 : decode cL_law 465 = .ok (.iadd, 1) := by decide +kernel
theorem dL_law_466 : decode cL_law 466 = .ok (.iaload, 1) := by decide +kernel
theorem dL_law_467 : decode cL_law 467 = .ok (.invokevirtual 54, 3) := by decide +kernel
theorem dL_law_470 : decode cL_law 470 = .ok (.aload_n 2, 1) := by decide +kernel
theorem dL_law_471 : decode cL_law 471 = .ok (.aload_n 0, 1) := by decide +kernel
theorem dL_law_472 : decode cL_law 472 = .ok (.iload_n 3, 1) := by decide +kernel
theorem dL_law_473 : decode cL_law 473 = .ok (.iconst 1, 1) := by decide +kernel
theorem dL_law_474 : decode cL_law 474 = .ok (.iadd, 1) := by decide +kernel
theorem dL_law_475 : decode cL_law 475 = .ok (.iaload, 1) := by decide +kernel
theorem dL_law_476 : decode cL_law 476 = .ok (.invokevirtual 57, 3) := by decide +kernel
theorem dL_law_479 : decode cL_law 479 = .ok (.if_icmp .eq 757, 3) := by decide +kernel
theorem dL_law_482 : decode cL_law 482 = .ok (.iconst 0, 1) := by decide +kernel
theorem dL_law_483 : decode cL_law 483 = .ok (.ireturn, 1) := by decide +kernel
theorem dL_law_484 : decode cL_law 484 = .ok (.aload_n 1, 1) := by decide +kernel
theorem dL_law_485 : decode cL_law 485 = .ok (.invokevirtual 58, 3) := by decide +kernel
theorem dL_law_488 : decode cL_law 488 = .ok (.aload_n 2, 1) := by decide +kernel
theorem dL_law_489 : decode cL_law 489 = .ok (.invokevirtual 61, 3) := by decide +kernel
theorem dL_law_492 : decode cL_law 492 = .ok (.if_icmp .eq 744, 3) := by decide +kernel
theorem dL_law_495 : decode cL_law 495 = .ok (.iconst 0, 1) := by decide +kernel
theorem dL_law_496 : decode cL_law 496 = .ok (.ireturn, 1) := by decide +kernel
theorem dL_law_497 : decode cL_law 497 = .ok (.aload_n 1, 1) := by decide +kernel
theorem dL_law_498 : decode cL_law 498 = .ok (.aload_n 0, 1) := by decide +kernel
theorem dL_law_499 : decode cL_law 499 = .ok (.iload_n 3, 1) := by decide +kernel
theorem dL_law_500 : decode cL_law 500 = .ok (.iconst 1, 1) := by decide +kernel
theorem dL_law_501 : decode cL_law 501 = .ok (.iadd, 1) := by decide +kernel
theorem dL_law_502 : decode cL_law 502 = .ok (.iaload, 1) := by decide +kernel
theorem dL_law_503 : decode cL_law 503 = .ok (.aload_n 0, 1) := by decide +kernel
theorem dL_law_504 : decode cL_law 504 = .ok (.iload_n 3, 1) := by decide +kernel
theorem dL_law_505 : decode cL_law 505 = .ok (.iconst 2, 1) := by decide +kernel
theorem dL_law_506 : decode cL_law 506 = .ok (.iadd, 1) := by decide +kernel
theorem dL_law_507 : decode cL_law 507 = .ok (.iaload, 1) := by decide +kernel
theorem dL_law_508 : decode cL_law 508 = .ok (.invokevirtual 62, 3) := by decide +kernel
theorem dL_law_511 : decode cL_law 511 = .ok (.aload_n 2, 1) := by decide +kernel
theorem dL_law_512 : decode cL_law 512 = .ok (.aload_n 0, 1) := by decide +kernel
theorem dL_law_513 : decode cL_law 513 = .ok (.iload_n 3, 1) := by decide +kernel
theorem dL_law_514 : decode cL_law 514 = .ok (.iconst 1, 1) := by decide +kernel
theorem dL_law_515 : decode cL_law 515 = .ok (.iadd, 1) := by decide +kernel
theorem dL_law_516 : decode cL_law 516 = .ok (.iaload, 1) := by decide +kernel
theorem dL_law_517 : decode cL_law 517 = .ok (.aload_n 0, 1) := by decide +kernel
theorem dL_law_518 : decode cL_law 518 = .ok (.iload_n 3, 1) := by decide +kernel
theorem dL_law_519 : decode cL_law 519 = .ok (.iconst 2, 1) := by decide +kernel
theorem dL_law_520 : decode cL_law 520 = .ok (.iadd, 1) := by decide +kernel
theorem dL_law_521 : decode cL_law 521 = .ok (.iaload, 1) := by decide +kernel
theorem dL_law_522 : decode cL_law 522 = .ok (.invokevirtual 65, 3) := by decide +kernel
theorem dL_law_525 : decode cL_law 525 = .ok (.if_icmp .eq 711, 3) := by decide +kernel
theorem dL_law_528 : decode cL_law 528 = .ok (.iconst 0, 1) := by decide +kernel
theorem dL_law_529 : decode cL_law 529 = .ok (.ireturn, 1) := by decide +kernel
theorem dL_law_530 : decode cL_law 530 = .ok (.aload_n 1, 1) := by decide +kernel
theorem dL_law_531 : decode cL_law 531 = .ok (.aload_n 0, 1) := by decide +kernel
theorem dL_law_532 : decode cL_law 532 = .ok (.iload_n 3, 1) := by decide +kernel
theorem dL_law_533 : decode cL_law 533 = .ok (.iconst 1, 1) := by decide +kernel
theorem dL_law_534 : decode cL_law 534 = .ok (.iadd, 1) := by decide +kernel
theorem dL_law_535 : decode cL_law 535 = .ok (.iaload, 1) := by decide +kernel
theorem dL_law_536 : decode cL_law 536 = .ok (.invokevirtual 66, 3) := by decide +kernel
theorem dL_law_539 : decode cL_law 539 = .ok (.aload_n 2, 1) := by decide +kernel
theorem dL_law_540 : decode cL_law 540 = .ok (.aload_n 0, 1) := by decide +kernel
theorem dL_law_541 : decode cL_law 541 = .ok (.iload_n 3, 1) := by decide +kernel
theorem dL_law_542 : decode cL_law 542 = .ok (.iconst 1, 1) := by decide +kernel
theorem dL_law_543 : decode cL_law 543 = .ok (.iadd, 1) := by decide +kernel
theorem dL_law_544 : decode cL_law 544 = .ok (.iaload, 1) := by decide +kernel
theorem dL_law_545 : decode cL_law 545 = .ok (.invokevirtual 69, 3) := by decide +kernel
theorem dL_law_548 : decode cL_law 548 = .ok (.if_icmp .eq 688, 3) := by decide +kernel
theorem dL_law_551 : decode cL_law 551 = .ok (.iconst 0, 1) := by decide +kernel
theorem dL_law_552 : decode cL_law 552 = .ok (.ireturn, 1) := by decide +kernel
theorem dL_law_553 : decode cL_law 553 = .ok (.aload_n 1, 1) := by decide +kernel
theorem dL_law_554 : decode cL_law 554 = .ok (.aload_n 0, 1) := by decide +kernel
theorem dL_law_555 : decode cL_law 555 = .ok (.iload_n 3, 1) := by decide +kernel
theorem dL_law_556 : decode cL_law 556 = .ok (.iconst 1, 1) := by decide +kernel
theorem dL_law_557 : decode cL_law 557 = .ok (.iadd, 1) := by decide +kernel
theorem dL_law_558 : decode cL_law 558 = .ok (.iaload, 1) := by decide +kernel
theorem dL_law_559 : decode cL_law 559 = .ok (.invokevirtual 70, 3) := by decide +kernel
theorem dL_law_562 : decode cL_law 562 = .ok (.aload_n 2, 1) := by decide +kernel
theorem dL_law_563 : decode cL_law 563 = .ok (.aload_n 0, 1) := by decide +kernel
theorem dL_law_564 : decode cL_law 564 = .ok (.iload_n 3, 1) := by decide +kernel
theorem dL_law_565 : decode cL_law 565 = .ok (.iconst 1, 1) := by decide +kernel
theorem dL_law_566 : decode cL_law 566 = .ok (.iadd, 1) := by decide +kernel
theorem dL_law_567 : decode cL_law 567 = .ok (.iaload, 1) := by decide +kernel
theorem dL_law_568 : decode cL_law 568 = .ok (.invokevirtual 73, 3) := by decide +kernel
theorem dL_law_571 : decode cL_law 571 = .ok (.if_icmp .eq 665, 3) := by decide +kernel
theorem dL_law_574 : decode cL_law 574 = .ok (.iconst 0, 1) := by decide +kernel
theorem dL_law_575 : decode cL_law 575 = .ok (.ireturn, 1) := by decide +kernel
theorem dL_law_576 : decode cL_law 576 = .ok (.aload_n 1, 1) := by decide +kernel
theorem dL_law_577 : decode cL_law 577 = .ok (.invokevirtual 74, 3) := by decide +kernel
theorem dL_law_580 : decode cL_law 580 = .ok (.aload_n 2, 1) := by decide +kernel
theorem dL_law_581 : decode cL_law 581 = .ok (.invokevirtual 77, 3) := by decide +kernel
theorem dL_law_584 : decode cL_law 584 = .ok (.if_icmp .eq 652, 3) := by decide +kernel
theorem dL_law_587 : decode cL_law 587 = .ok (.iconst 0, 1) := by decide +kernel
theorem dL_law_588 : decode cL_law 588 = .ok (.ireturn, 1) := by decide +kernel
theorem dL_law_589 : decode cL_law 589 = .ok (.aload_n 1, 1) := by decide +kernel
theorem dL_law_590 : decode cL_law 590 = .ok (.aload_n 0, 1) := by decide +kernel
theorem dL_law_591 : decode cL_law 591 = .ok (.iload_n 3, 1) := by decide +kernel
theorem dL_law_592 : decode cL_law 592 = .ok (.iconst 1, 1) := by decide +kernel
theorem dL_law_593 : decode cL_law 593 = .ok (.iadd, 1) := by decide +kernel
theorem dL_law_594 : decode cL_law 594 = .ok (.iaload, 1) := by decide +kernel
theorem dL_law_595 : decode cL_law 595 = .ok (.aload_n 0, 1) := by decide +kernel
theorem dL_law_596 : decode cL_law 596 = .ok (.iload_n 3, 1) := by decide +kernel
theorem dL_law_597 : decode cL_law 597 = .ok (.iconst 2, 1) := by decide +kernel
theorem dL_law_598 : decode cL_law 598 = .ok (.iadd, 1) := by decide +kernel
theorem dL_law_599 : decode cL_law 599 = .ok (.iaload, 1) := by decide +kernel
theorem dL_law_600 : decode cL_law 600 = .ok (.aload_n 0, 1) := by decide +kernel
theorem dL_law_601 : decode cL_law 601 = .ok (.iload_n 3, 1) := by decide +kernel
theorem dL_law_602 : decode cL_law 602 = .ok (.iconst 3, 1) := by decide +kernel
theorem dL_law_603 : decode cL_law 603 = .ok (.iadd, 1) := by decide +kernel
theorem dL_law_604 : decode cL_law 604 = .ok (.iaload, 1) := by decide +kernel
theorem dL_law_605 : decode cL_law 605 = .ok (.invokevirtual 78, 3) := by decide +kernel
theorem dL_law_608 : decode cL_law 608 = .ok (.aload_n 2, 1) := by decide +kernel
theorem dL_law_609 : decode cL_law 609 = .ok (.aload_n 0, 1) := by decide +kernel
theorem dL_law_610 : decode cL_law 610 = .ok (.iload_n 3, 1) := by decide +kernel
theorem dL_law_611 : decode cL_law 611 = .ok (.iconst 1, 1) := by decide +kernel
theorem dL_law_612 : decode cL_law 612 = .ok (.iadd, 1) := by decide +kernel
theorem dL_law_613 : decode cL_law 613 = .ok (.iaload, 1) := by decide +kernel
theorem dL_law_614 : decode cL_law 614 = .ok (.aload_n 0, 1) := by decide +kernel
theorem dL_law_615 : decode cL_law 615 = .ok (.iload_n 3, 1) := by decide +kernel
theorem dL_law_616 : decode cL_law 616 = .ok (.iconst 2, 1) := by decide +kernel
theorem dL_law_617 : decode cL_law 617 = .ok (.iadd, 1) := by decide +kernel
theorem dL_law_618 : decode cL_law 618 = .ok (.iaload, 1) := by decide +kernel
theorem dL_law_619 : decode cL_law 619 = .ok (.aload_n 0, 1) := by decide +kernel
theorem dL_law_620 : decode cL_law 620 = .ok (.iload_n 3, 1) := by decide +kernel
theorem dL_law_621 : decode cL_law 621 = .ok (.iconst 3, 1) := by decide +kernel
theorem dL_law_622 : decode cL_law 622 = .ok (.iadd, 1) := by decide +kernel
theorem dL_law_623 : decode cL_law 623 = .ok (.iaload, 1) := by decide +kernel
theorem dL_law_624 : decode cL_law 624 = .ok (.invokevirtual 81, 3) := by decide +kernel
theorem dL_law_627 : decode cL_law 627 = .ok (.if_icmp .eq 609, 3) := by decide +kernel
theorem dL_law_630 : decode cL_law 630 = .ok (.iconst 0, 1) := by decide +kernel
theorem dL_law_631 : decode cL_law 631 = .ok (.ireturn, 1) := by decide +kernel
theorem dL_law_632 : decode cL_law 632 = .ok (.aload_n 1, 1) := by decide +kernel
theorem dL_law_633 : decode cL_law 633 = .ok (.aload_n 0, 1) := by decide +kernel
theorem dL_law_634 : decode cL_law 634 = .ok (.iload_n 3, 1) := by decide +kernel
theorem dL_law_635 : decode cL_law 635 = .ok (.iconst 1, 1) := by decide +kernel
theorem dL_law_636 : decode cL_law 636 = .ok (.iadd, 1) := by decide +kernel
theorem dL_law_637 : decode cL_law 637 = .ok (.iaload, 1) := by decide +kernel
theorem dL_law_638 : decode cL_law 638 = .ok (.aload_n 0, 1) := by decide +kernel
theorem dL_law_639 : decode cL_law 639 = .ok (.iload_n 3, 1) := by decide +kernel
theorem dL_law_640 : decode cL_law 640 = .ok (.iconst 2, 1) := by decide +kernel
theorem dL_law_641 : decode cL_law 641 = .ok (.iadd, 1) := by decide +kernel
theorem dL_law_642 : decode cL_law 642 = .ok (.iaload, 1) := by decide +kernel
theorem dL_law_643 : decode cL_law 643 = .ok (.invokevirtual 82, 3) := by decide +kernel
theorem dL_law_646 : decode cL_law 646 = .ok (.aload_n 2, 1) := by decide +kernel
theorem dL_law_647 : decode cL_law 647 = .ok (.aload_n 0, 1) := by decide +kernel
theorem dL_law_648 : decode cL_law 648 = .ok (.iload_n 3, 1) := by decide +kernel
theorem dL_law_649 : decode cL_law 649 = .ok (.iconst 1, 1) := by decide +kernel
theorem dL_law_650 : decode cL_law 650 = .ok (.iadd, 1) := by decide +kernel
theorem dL_law_651 : decode cL_law 651 = .ok (.iaload, 1) := by decide +kernel
theorem dL_law_652 : decode cL_law 652 = .ok (.aload_n 0, 1) := by decide +kernel
theorem dL_law_653 : decode cL_law 653 = .ok (.iload_n 3, 1) := by decide +kernel
theorem dL_law_654 : decode cL_law 654 = .ok (.iconst 2, 1) := by decide +kernel
theorem dL_law_655 : decode cL_law 655 = .ok (.iadd, 1) := by decide +kernel
theorem dL_law_656 : decode cL_law 656 = .ok (.iaload, 1) := by decide +kernel
theorem dL_law_657 : decode cL_law 657 = .ok (.invokevirtual 85, 3) := by decide +kernel
theorem dL_law_660 : decode cL_law 660 = .ok (.if_icmp .eq 576, 3) := by decide +kernel
theorem dL_law_663 : decode cL_law 663 = .ok (.iconst 0, 1) := by decide +kernel
theorem dL_law_664 : decode cL_law 664 = .ok (.ireturn, 1) := by decide +kernel
theorem dL_law_665 : decode cL_law 665 = .ok (.aload_n 1, 1) := by decide +kernel
theorem dL_law_666 : decode cL_law 666 = .ok (.aload_n 0, 1) := by decide +kernel
theorem dL_law_667 : decode cL_law 667 = .ok (.iload_n 3, 1) := by decide +kernel
theorem dL_law_668 : decode cL_law 668 = .ok (.iconst 1, 1) := by decide +kernel
theorem dL_law_669 : decode cL_law 669 = .ok (.iadd, 1) := by decide +kernel
theorem dL_law_670 : decode cL_law 670 = .ok (.iaload, 1) := by decide +kernel
theorem dL_law_671 : decode cL_law 671 = .ok (.aload_n 0, 1) := by decide +kernel
theorem dL_law_672 : decode cL_law 672 = .ok (.iload_n 3, 1) := by decide +kernel
theorem dL_law_673 : decode cL_law 673 = .ok (.iconst 2, 1) := by decide +kernel
theorem dL_law_674 : decode cL_law 674 = .ok (.iadd, 1) := by decide +kernel
theorem dL_law_675 : decode cL_law 675 = .ok (.iaload, 1) := by decide +kernel
theorem dL_law_676 : decode cL_law 676 = .ok (.aload_n 0, 1) := by decide +kernel
theorem dL_law_677 : decode cL_law 677 = .ok (.iload_n 3, 1) := by decide +kernel
theorem dL_law_678 : decode cL_law 678 = .ok (.iconst 3, 1) := by decide +kernel
theorem dL_law_679 : decode cL_law 679 = .ok (.iadd, 1) := by decide +kernel
theorem dL_law_680 : decode cL_law 680 = .ok (.iaload, 1) := by decide +kernel
theorem dL_law_681 : decode cL_law 681 = .ok (.aload_n 0, 1) := by decide +kernel
theorem dL_law_682 : decode cL_law 682 = .ok (.iload_n 3, 1) := by decide +kernel
theorem dL_law_683 : decode cL_law 683 = .ok (.iconst 4, 1) := by decide +kernel
theorem dL_law_684 : decode cL_law 684 = .ok (.iadd, 1) := by decide +kernel
theorem dL_law_685 : decode cL_law 685 = .ok (.iaload, 1) := by decide +kernel
theorem dL_law_686 : decode cL_law 686 = .ok (.invokevirtual 86, 3) := by decide +kernel
theorem dL_law_689 : decode cL_law 689 = .ok (.aload_n 2, 1) := by decide +kernel
theorem dL_law_690 : decode cL_law 690 = .ok (.aload_n 0, 1) := by decide +kernel
theorem dL_law_691 : decode cL_law 691 = .ok (.iload_n 3, 1) := by decide +kernel
theorem dL_law_692 : decode cL_law 692 = .ok (.iconst 1, 1) := by decide +kernel
theorem dL_law_693 : decode cL_law 693 = .ok (.iadd, 1) := by decide +kernel
theorem dL_law_694 : decode cL_law 694 = .ok (.iaload, 1) := by decide +kernel
theorem dL_law_695 : decode cL_law 695 = .ok (.aload_n 0, 1) := by decide +kernel
theorem dL_law_696 : decode cL_law 696 = .ok (.iload_n 3, 1) := by decide +kernel
theorem dL_law_697 : decode cL_law 697 = .ok (.iconst 2, 1) := by decide +kernel
theorem dL_law_698 : decode cL_law 698 = .ok (.iadd, 1) := by decide +kernel
theorem dL_law_699 : decode cL_law 699 = .ok (.iaload, 1) := by decide +kernel
theorem dL_law_700 : decode cL_law 700 = .ok (.aload_n 0, 1) := by decide +kernel
theorem dL_law_701 : decode cL_law 701 = .ok (.iload_n 3, 1) := by decide +kernel
theorem dL_law_702 : decode cL_law 702 = .ok (.iconst 3, 1) := by decide +kernel
theorem dL_law_703 : decode cL_law 703 = .ok (.iadd, 1) := by decide +kernel
theorem dL_law_704 : decode cL_law 704 = .ok (.iaload, 1) := by decide +kernel
theorem dL_law_705 : decode cL_law 705 = .ok (.aload_n 0, 1) := by decide +kernel
theorem dL_law_706 : decode cL_law 706 = .ok (.iload_n 3, 1) := by decide +kernel
theorem dL_law_707 : decode cL_law 707 = .ok (.iconst 4, 1) := by decide +kernel
theorem dL_law_708 : decode cL_law 708 = .ok (.iadd, 1) := by decide +kernel
theorem dL_law_709 : decode cL_law 709 = .ok (.iaload, 1) := by decide +kernel
theorem dL_law_710 : decode cL_law 710 = .ok (.invokevirtual 90, 3) := by decide +kernel
theorem dL_law_713 : decode cL_law 713 = .ok (.if_icmp .eq 523, 3) := by decide +kernel
theorem dL_law_716 : decode cL_law 716 = .ok (.iconst 0, 1) := by decide +kernel
theorem dL_law_717 : decode cL_law 717 = .ok (.ireturn, 1) := by decide +kernel
theorem dL_law_718 : decode cL_law 718 = .ok (.aload_n 1, 1) := by decide +kernel
theorem dL_law_719 : decode cL_law 719 = .ok (.aload_n 0, 1) := by decide +kernel
theorem dL_law_720 : decode cL_law 720 = .ok (.iload_n 3, 1) := by decide +kernel
theorem dL_law_721 : decode cL_law 721 = .ok (.iconst 1, 1) := by decide +kernel
theorem dL_law_722 : decode cL_law 722 = .ok (.iadd, 1) := by decide +kernel
theorem dL_law_723 : decode cL_law 723 = .ok (.iaload, 1) := by decide +kernel
theorem dL_law_724 : decode cL_law 724 = .ok (.aload_n 0, 1) := by decide +kernel
theorem dL_law_725 : decode cL_law 725 = .ok (.iload_n 3, 1) := by decide +kernel
theorem dL_law_726 : decode cL_law 726 = .ok (.iconst 2, 1) := by decide +kernel
theorem dL_law_727 : decode cL_law 727 = .ok (.iadd, 1) := by decide +kernel
theorem dL_law_728 : decode cL_law 728 = .ok (.iaload, 1) := by decide +kernel
theorem dL_law_729 : decode cL_law 729 = .ok (.aload_n 0, 1) := by decide +kernel
theorem dL_law_730 : decode cL_law 730 = .ok (.iload_n 3, 1) := by decide +kernel
theorem dL_law_731 : decode cL_law 731 = .ok (.iconst 3, 1) := by decide +kernel
theorem dL_law_732 : decode cL_law 732 = .ok (.iadd, 1) := by decide +kernel
theorem dL_law_733 : decode cL_law 733 = .ok (.iaload, 1) := by decide +kernel
theorem dL_law_734 : decode cL_law 734 = .ok (.invokevirtual 91, 3) := by decide +kernel
theorem dL_law_737 : decode cL_law 737 = .ok (.aload_n 2, 1) := by decide +kernel
theorem dL_law_738 : decode cL_law 738 = .ok (.aload_n 0, 1) := by decide +kernel
theorem dL_law_739 : decode cL_law 739 = .ok (.iload_n 3, 1) := by decide +kernel
theorem dL_law_740 : decode cL_law 740 = .ok (.iconst 1, 1) := by decide +kernel
theorem dL_law_741 : decode cL_law 741 = .ok (.iadd, 1) := by decide +kernel
theorem dL_law_742 : decode cL_law 742 = .ok (.iaload, 1) := by decide +kernel
theorem dL_law_743 : decode cL_law 743 = .ok (.aload_n 0, 1) := by decide +kernel
theorem dL_law_744 : decode cL_law 744 = .ok (.iload_n 3, 1) := by decide +kernel
theorem dL_law_745 : decode cL_law 745 = .ok (.iconst 2, 1) := by decide +kernel
theorem dL_law_746 : decode cL_law 746 = .ok (.iadd, 1) := by decide +kernel
theorem dL_law_747 : decode cL_law 747 = .ok (.iaload, 1) := by decide +kernel
theorem dL_law_748 : decode cL_law 748 = .ok (.aload_n 0, 1) := by decide +kernel
theorem dL_law_749 : decode cL_law 749 = .ok (.iload_n 3, 1) := by decide +kernel
theorem dL_law_750 : decode cL_law 750 = .ok (.iconst 3, 1) := by decide +kernel
theorem dL_law_751 : decode cL_law 751 = .ok (.iadd, 1) := by decide +kernel
theorem dL_law_752 : decode cL_law 752 = .ok (.iaload, 1) := by decide +kernel
theorem dL_law_753 : decode cL_law 753 = .ok (.invokevirtual 94, 3) := by decide +kernel
theorem dL_law_756 : decode cL_law 756 = .ok (.if_icmp .eq 480, 3) := by decide +kernel
theorem dL_law_759 : decode cL_law 759 = .ok (.iconst 0, 1) := by decide +kernel
theorem dL_law_760 : decode cL_law 760 = .ok (.ireturn, 1) := by decide +kernel
theorem dL_law_761 : decode cL_law 761 = .ok (.aload_n 1, 1) := by decide +kernel
theorem dL_law_762 : decode cL_law 762 = .ok (.invokevirtual 95, 3) := by decide +kernel
theorem dL_law_765 : decode cL_law 765 = .ok (.aload_n 2, 1) := by decide +kernel
theorem dL_law_766 : decode cL_law 766 = .ok (.invokevirtual 98, 3) := by decide +kernel
theorem dL_law_769 : decode cL_law 769 = .ok (.if_icmp .eq 467, 3) := by decide +kernel
theorem dL_law_772 : decode cL_law 772 = .ok (.iconst 0, 1) := by decide +kernel
theorem dL_law_773 : decode cL_law 773 = .ok (.ireturn, 1) := by decide +kernel
theorem dL_law_774 : decode cL_law 774 = .ok (.aload_n 1, 1) := by decide +kernel
theorem dL_law_775 : decode cL_law 775 = .ok (.aload_n 0, 1) := by decide +kernel
theorem dL_law_776 : decode cL_law 776 = .ok (.iload_n 3, 1) := by decide +kernel
theorem dL_law_777 : decode cL_law 777 = .ok (.iconst 1, 1) := by decide +kernel
theorem dL_law_778 : decode cL_law 778 = .ok (.iadd, 1) := by decide +kernel
theorem dL_law_779 : decode cL_law 779 = .ok (.iaload, 1) := by decide +kernel
theorem dL_law_780 : decode cL_law 780 = .ok (.aload_n 0, 1) := by decide +kernel
theorem dL_law_781 : decode cL_law 781 = .ok (.iload_n 3, 1) := by decide +kernel
theorem dL_law_782 : decode cL_law 782 = .ok (.iconst 2, 1) := by decide +kernel
theorem dL_law_783 : decode cL_law 783 = .ok (.iadd, 1) := by decide +kernel
theorem dL_law_784 : decode cL_law 784 = .ok (.iaload, 1) := by decide +kernel
theorem dL_law_785 : decode cL_law 785 = .ok (.aload_n 0, 1) := by decide +kernel
theorem dL_law_786 : decode cL_law 786 = .ok (.iload_n 3, 1) := by decide +kernel
theorem dL_law_787 : decode cL_law 787 = .ok (.iconst 3, 1) := by decide +kernel
theorem dL_law_788 : decode cL_law 788 = .ok (.iadd, 1) := by decide +kernel
theorem dL_law_789 : decode cL_law 789 = .ok (.iaload, 1) := by decide +kernel
theorem dL_law_790 : decode cL_law 790 = .ok (.aload_n 0, 1) := by decide +kernel
theorem dL_law_791 : decode cL_law 791 = .ok (.iload_n 3, 1) := by decide +kernel
theorem dL_law_792 : decode cL_law 792 = .ok (.iconst 4, 1) := by decide +kernel
theorem dL_law_793 : decode cL_law 793 = .ok (.iadd, 1) := by decide +kernel
theorem dL_law_794 : decode cL_law 794 = .ok (.iaload, 1) := by decide +kernel
theorem dL_law_795 : decode cL_law 795 = .ok (.aload_n 0, 1) := by decide +kernel
theorem dL_law_796 : decode cL_law 796 = .ok (.iload_n 3, 1) := by decide +kernel
theorem dL_law_797 : decode cL_law 797 = .ok (.iconst 5, 1) := by decide +kernel
theorem dL_law_798 : decode cL_law 798 = .ok (.iadd, 1) := by decide +kernel
theorem dL_law_799 : decode cL_law 799 = .ok (.iaload, 1) := by decide +kernel
theorem dL_law_800 : decode cL_law 800 = .ok (.invokevirtual 99, 3) := by decide +kernel
theorem dL_law_803 : decode cL_law 803 = .ok (.aload_n 2, 1) := by decide +kernel
theorem dL_law_804 : decode cL_law 804 = .ok (.aload_n 0, 1) := by decide +kernel
theorem dL_law_805 : decode cL_law 805 = .ok (.iload_n 3, 1) := by decide +kernel
theorem dL_law_806 : decode cL_law 806 = .ok (.iconst 1, 1) := by decide +kernel
theorem dL_law_807 : decode cL_law 807 = .ok (.iadd, 1) := by decide +kernel
theorem dL_law_808 : decode cL_law 808 = .ok (.iaload, 1) := by decide +kernel
theorem dL_law_809 : decode cL_law 809 = .ok (.aload_n 0, 1) := by decide +kernel
theorem dL_law_810 : decode cL_law 810 = .ok (.iload_n 3, 1) := by decide +kernel
theorem dL_law_811 : decode cL_law 811 = .ok (.iconst 2, 1) := by decide +kernel
theorem dL_law_812 : decode cL_law 812 = .ok (.iadd, 1) := by decide +kernel
theorem dL_law_813 : decode cL_law 813 = .ok (.iaload, 1) := by decide +kernel
theorem dL_law_814 : decode cL_law 814 = .ok (.aload_n 0, 1) := by decide +kernel
theorem dL_law_815 : decode cL_law 815 = .ok (.iload_n 3, 1) := by decide +kernel
theorem dL_law_816 : decode cL_law 816 = .ok (.iconst 3, 1) := by decide +kernel
theorem dL_law_817 : decode cL_law 817 = .ok (.iadd, 1) := by decide +kernel
theorem dL_law_818 : decode cL_law 818 = .ok (.iaload, 1) := by decide +kernel
theorem dL_law_819 : decode cL_law 819 = .ok (.aload_n 0, 1) := by decide +kernel
theorem dL_law_820 : decode cL_law 820 = .ok (.iload_n 3, 1) := by decide +kernel
theorem dL_law_821 : decode cL_law 821 = .ok (.iconst 4, 1) := by decide +kernel
theorem dL_law_822 : decode cL_law 822 = .ok (.iadd, 1) := by decide +kernel
theorem dL_law_823 : decode cL_law 823 = .ok (.iaload, 1) := by decide +kernel
theorem dL_law_824 : decode cL_law 824 = .ok (.aload_n 0, 1) := by decide +kernel
theorem dL_law_825 : decode cL_law 825 = .ok (.iload_n 3, 1) := by decide +kernel
theorem dL_law_826 : decode cL_law 826 = .ok (.iconst 5, 1) := by decide +kernel
theorem dL_law_827 : decode cL_law 827 = .ok (.iadd, 1) := by decide +kernel
theorem dL_law_828 : decode cL_law 828 = .ok (.iaload, 1) := by decide +kernel
theorem dL_law_829 : decode cL_law 829 = .ok (.invokevirtual 102, 3) := by decide +kernel
theorem dL_law_832 : decode cL_law 832 = .ok (.if_icmp .eq 404, 3) := by decide +kernel
theorem dL_law_835 : decode cL_law 835 = .ok (.iconst 0, 1) := by decide +kernel
theorem dL_law_836 : decode cL_law 836 = .ok (.ireturn, 1) := by decide +kernel
theorem dL_law_837 : decode cL_law 837 = .ok (.aload_n 1, 1) := by decide +kernel
theorem dL_law_838 : decode cL_law 838 = .ok (.aload_n 0, 1) := by decide +kernel
theorem dL_law_839 : decode cL_law 839 = .ok (.iload_n 3, 1) := by decide +kernel
theorem dL_law_840 : decode cL_law 840 = .ok (.iconst 1, 1) := by decide +kernel
theorem dL_law_841 : decode cL_law 841 = .ok (.iadd, 1) := by decide +kernel
theorem dL_law_842 : decode cL_law 842 = .ok (.iaload, 1) := by decide +kernel
theorem dL_law_843 : decode cL_law 843 = .ok (.aload_n 0, 1) := by decide +kernel
theorem dL_law_844 : decode cL_law 844 = .ok (.iload_n 3, 1) := by decide +kernel
theorem dL_law_845 : decode cL_law 845 = .ok (.iconst 2, 1) := by decide +kernel
theorem dL_law_846 : decode cL_law 846 = .ok (.iadd, 1) := by decide +kernel
theorem dL_law_847 : decode cL_law 847 = .ok (.iaload, 1) := by decide +kernel
theorem dL_law_848 : decode cL_law 848 = .ok (.aload_n 0, 1) := by decide +kernel
theorem dL_law_849 : decode cL_law 849 = .ok (.iload_n 3, 1) := by decide +kernel
theorem dL_law_850 : decode cL_law 850 = .ok (.iconst 3, 1) := by decide +kernel
theorem dL_law_851 : decode cL_law 851 = .ok (.iadd, 1) := by decide +kernel
theorem dL_law_852 : decode cL_law 852 = .ok (.iaload, 1) := by decide +kernel
theorem dL_law_853 : decode cL_law 853 = .ok (.invokevirtual 103, 3) := by decide +kernel
theorem dL_law_856 : decode cL_law 856 = .ok (.aload_n 2, 1) := by decide +kernel
theorem dL_law_857 : decode cL_law 857 = .ok (.aload_n 0, 1) := by decide +kernel
theorem dL_law_858 : decode cL_law 858 = .ok (.iload_n 3, 1) := by decide +kernel
theorem dL_law_859 : decode cL_law 859 = .ok (.iconst 1, 1) := by decide +kernel
theorem dL_law_860 : decode cL_law 860 = .ok (.iadd, 1) := by decide +kernel
theorem dL_law_861 : decode cL_law 861 = .ok (.iaload, 1) := by decide +kernel
theorem dL_law_862 : decode cL_law 862 = .ok (.aload_n 0, 1) := by decide +kernel
theorem dL_law_863 : decode cL_law 863 = .ok (.iload_n 3, 1) := by decide +kernel
theorem dL_law_864 : decode cL_law 864 = .ok (.iconst 2, 1) := by decide +kernel
theorem dL_law_865 : decode cL_law 865 = .ok (.iadd, 1) := by decide +kernel
theorem dL_law_866 : decode cL_law 866 = .ok (.iaload, 1) := by decide +kernel
theorem dL_law_867 : decode cL_law 867 = .ok (.aload_n 0, 1) := by decide +kernel
theorem dL_law_868 : decode cL_law 868 = .ok (.iload_n 3, 1) := by decide +kernel
theorem dL_law_869 : decode cL_law 869 = .ok (.iconst 3, 1) := by decide +kernel
theorem dL_law_870 : decode cL_law 870 = .ok (.iadd, 1) := by decide +kernel
theorem dL_law_871 : decode cL_law 871 = .ok (.iaload, 1) := by decide +kernel
theorem dL_law_872 : decode cL_law 872 = .ok (.invokevirtual 106, 3) := by decide +kernel
theorem dL_law_875 : decode cL_law 875 = .ok (.if_icmp .eq 361, 3) := by decide +kernel
theorem dL_law_878 : decode cL_law 878 = .ok (.iconst 0, 1) := by decide +kernel
theorem dL_law_879 : decode cL_law 879 = .ok (.ireturn, 1) := by decide +kernel
theorem dL_law_880 : decode cL_law 880 = .ok (.aload_n 1, 1) := by decide +kernel
theorem dL_law_881 : decode cL_law 881 = .ok (.aload_n 0, 1) := by decide +kernel
theorem dL_law_882 : decode cL_law 882 = .ok (.iload_n 3, 1) := by decide +kernel
theorem dL_law_883 : decode cL_law 883 = .ok (.iconst 1, 1) := by decide +kernel
theorem dL_law_884 : decode cL_law 884 = .ok (.iadd, 1) := by decide +kernel
theorem dL_law_885 : decode cL_law 885 = .ok (.iaload, 1) := by decide +kernel
theorem dL_law_886 : decode cL_law 886 = .ok (.aload_n 0, 1) := by decide +kernel
theorem dL_law_887 : decode cL_law 887 = .ok (.iload_n 3, 1) := by decide +kernel
theorem dL_law_888 : decode cL_law 888 = .ok (.iconst 2, 1) := by decide +kernel
theorem dL_law_889 : decode cL_law 889 = .ok (.iadd, 1) := by decide +kernel
theorem dL_law_890 : decode cL_law 890 = .ok (.iaload, 1) := by decide +kernel
theorem dL_law_891 : decode cL_law 891 = .ok (.invokevirtual 107, 3) := by decide +kernel
theorem dL_law_894 : decode cL_law 894 = .ok (.aload_n 2, 1) := by decide +kernel
theorem dL_law_895 : decode cL_law 895 = .ok (.aload_n 0, 1) := by decide +kernel
theorem dL_law_896 : decode cL_law 896 = .ok (.iload_n 3, 1) := by decide +kernel
theorem dL_law_897 : decode cL_law 897 = .ok (.iconst 1, 1) := by decide +kernel
theorem dL_law_898 : decode cL_law 898 = .ok (.iadd, 1) := by decide +kernel
theorem dL_law_899 : decode cL_law 899 = .ok (.iaload, 1) := by decide +kernel
theorem dL_law_900 : decode cL_law 900 = .ok (.aload_n 0, 1) := by decide +kernel
theorem dL_law_901 : decode cL_law 901 = .ok (.iload_n 3, 1) := by decide +kernel
theorem dL_law_902 : decode cL_law 902 = .ok (.iconst 2, 1) := by decide +kernel
theorem dL_law_903 : decode cL_law 903 = .ok (.iadd, 1) := by decide +kernel
theorem dL_law_904 : decode cL_law 904 = .ok (.iaload, 1) := by decide +kernel
theorem dL_law_905 : decode cL_law 905 = .ok (.invokevirtual 110, 3) := by decide +kernel
theorem dL_law_908 : decode cL_law 908 = .ok (.if_icmp .eq 328, 3) := by decide +kernel
theorem dL_law_911 : decode cL_law 911 = .ok (.iconst 0, 1) := by decide +kernel
theorem dL_law_912 : decode cL_law 912 = .ok (.ireturn, 1) := by decide +kernel
theorem dL_law_913 : decode cL_law 913 = .ok (.aload_n 1, 1) := by decide +kernel
theorem dL_law_914 : decode cL_law 914 = .ok (.aload_n 0, 1) := by decide +kernel
theorem dL_law_915 : decode cL_law 915 = .ok (.iload_n 3, 1) := by decide +kernel
theorem dL_law_916 : decode cL_law 916 = .ok (.iconst 1, 1) := by decide +kernel
theorem dL_law_917 : decode cL_law 917 = .ok (.iadd, 1) := by decide +kernel
theorem dL_law_918 : decode cL_law 918 = .ok (.iaload, 1) := by decide +kernel
theorem dL_law_919 : decode cL_law 919 = .ok (.aload_n 0, 1) := by decide +kernel
theorem dL_law_920 : decode cL_law 920 = .ok (.iload_n 3, 1) := by decide +kernel
theorem dL_law_921 : decode cL_law 921 = .ok (.iconst 2, 1) := by decide +kernel
theorem dL_law_922 : decode cL_law 922 = .ok (.iadd, 1) := by decide +kernel
theorem dL_law_923 : decode cL_law 923 = .ok (.iaload, 1) := by decide +kernel
theorem dL_law_924 : decode cL_law 924 = .ok (.invokevirtual 111, 3) := by decide +kernel
theorem dL_law_927 : decode cL_law 927 = .ok (.aload_n 2, 1) := by decide +kernel
theorem dL_law_928 : decode cL_law 928 = .ok (.aload_n 0, 1) := by decide +kernel
theorem dL_law_929 : decode cL_law 929 = .ok (.iload_n 3, 1) := by decide +kernel
theorem dL_law_930 : decode cL_law 930 = .ok (.iconst 1, 1) := by decide +kernel
theorem dL_law_931 : decode cL_law 931 = .ok (.iadd, 1) := by decide +kernel
theorem dL_law_932 : decode cL_law 932 = .ok (.iaload, 1) := by decide +kernel
theorem dL_law_933 : decode cL_law 933 = .ok (.aload_n 0, 1) := by decide +kernel
theorem dL_law_934 : decode cL_law 934 = .ok (.iload_n 3, 1) := by decide +kernel
theorem dL_law_935 : decode cL_law 935 = .ok (.iconst 2, 1) := by decide +kernel
theorem dL_law_936 : decode cL_law 936 = .ok (.iadd, 1) := by decide +kernel
theorem dL_law_937 : decode cL_law 937 = .ok (.iaload, 1) := by decide +kernel
theorem dL_law_938 : decode cL_law 938 = .ok (.invokevirtual 114, 3) := by decide +kernel
theorem dL_law_941 : decode cL_law 941 = .ok (.if_icmp .eq 295, 3) := by decide +kernel
theorem dL_law_944 : decode cL_law 944 = .ok (.iconst 0, 1) := by decide +kernel
theorem dL_law_945 : decode cL_law 945 = .ok (.ireturn, 1) := by decide +kernel
theorem dL_law_946 : decode cL_law 946 = .ok (.aload_n 1, 1) := by decide +kernel
theorem dL_law_947 : decode cL_law 947 = .ok (.invokevirtual 115, 3) := by decide +kernel
theorem dL_law_950 : decode cL_law 950 = .ok (.aload_n 2, 1) := by decide +kernel
theorem dL_law_951 : decode cL_law 951 = .ok (.invokevirtual 118, 3) := by decide +kernel
theorem dL_law_954 : decode cL_law 954 = .ok (.if_icmp .eq 282, 3) := by decide +kernel
theorem dL_law_957 : decode cL_law 957 = .ok (.iconst 0, 1) := by decide +kernel
theorem dL_law_958 : decode cL_law 958 = .ok (.ireturn, 1) := by decide +kernel
theorem dL_law_959 : decode cL_law 959 = .ok (.aload_n 1, 1) := by decide +kernel
theorem dL_law_960 : decode cL_law 960 = .ok (.aload_n 0, 1) := by decide +kernel
theorem dL_law_961 : decode cL_law 961 = .ok (.iload_n 3, 1) := by decide +kernel
theorem dL_law_962 : decode cL_law 962 = .ok (.iconst 1, 1) := by decide +kernel
theorem dL_law_963 : decode cL_law 963 = .ok (.iadd, 1) := by decide +kernel
theorem dL_law_964 : decode cL_law 964 = .ok (.iaload, 1) := by decide +kernel
theorem dL_law_965 : decode cL_law 965 = .ok (.aload_n 0, 1) := by decide +kernel
theorem dL_law_966 : decode cL_law 966 = .ok (.iload_n 3, 1) := by decide +kernel
theorem dL_law_967 : decode cL_law 967 = .ok (.iconst 2, 1) := by decide +kernel
theorem dL_law_968 : decode cL_law 968 = .ok (.iadd, 1) := by decide +kernel
theorem dL_law_969 : decode cL_law 969 = .ok (.iaload, 1) := by decide +kernel
theorem dL_law_970 : decode cL_law 970 = .ok (.aload_n 0, 1) := by decide +kernel
theorem dL_law_971 : decode cL_law 971 = .ok (.iload_n 3, 1) := by decide +kernel
theorem dL_law_972 : decode cL_law 972 = .ok (.iconst 3, 1) := by decide +kernel
theorem dL_law_973 : decode cL_law 973 = .ok (.iadd, 1) := by decide +kernel
theorem dL_law_974 : decode cL_law 974 = .ok (.iaload, 1) := by decide +kernel
theorem dL_law_975 : decode cL_law 975 = .ok (.invokevirtual 119, 3) := by decide +kernel
theorem dL_law_978 : decode cL_law 978 = .ok (.aload_n 2, 1) := by decide +kernel
theorem dL_law_979 : decode cL_law 979 = .ok (.aload_n 0, 1) := by decide +kernel
theorem dL_law_980 : decode cL_law 980 = .ok (.iload_n 3, 1) := by decide +kernel
theorem dL_law_981 : decode cL_law 981 = .ok (.iconst 1, 1) := by decide +kernel
theorem dL_law_982 : decode cL_law 982 = .ok (.iadd, 1) := by decide +kernel
theorem dL_law_983 : decode cL_law 983 = .ok (.iaload, 1) := by decide +kernel
theorem dL_law_984 : decode cL_law 984 = .ok (.aload_n 0, 1) := by decide +kernel
theorem dL_law_985 : decode cL_law 985 = .ok (.iload_n 3, 1) := by decide +kernel
theorem dL_law_986 : decode cL_law 986 = .ok (.iconst 2, 1) := by decide +kernel
theorem dL_law_987 : decode cL_law 987 = .ok (.iadd, 1) := by decide +kernel
theorem dL_law_988 : decode cL_law 988 = .ok (.iaload, 1) := by decide +kernel
theorem dL_law_989 : decode cL_law 989 = .ok (.aload_n 0, 1) := by decide +kernel
theorem dL_law_990 : decode cL_law 990 = .ok (.iload_n 3, 1) := by decide +kernel
theorem dL_law_991 : decode cL_law 991 = .ok (.iconst 3, 1) := by decide +kernel
theorem dL_law_992 : decode cL_law 992 = .ok (.iadd, 1) := by decide +kernel
theorem dL_law_993 : decode cL_law 993 = .ok (.iaload, 1) := by decide +kernel
theorem dL_law_994 : decode cL_law 994 = .ok (.invokevirtual 122, 3) := by decide +kernel
theorem dL_law_997 : decode cL_law 997 = .ok (.if_icmp .eq 239, 3) := by decide +kernel
theorem dL_law_1000 : decode cL_law 1000 = .ok (.iconst 0, 1) := by decide +kernel
theorem dL_law_1001 : decode cL_law 1001 = .ok (.ireturn, 1) := by decide +kernel
theorem dL_law_1002 : decode cL_law 1002 = .ok (.aload_n 1, 1) := by decide +kernel
theorem dL_law_1003 : decode cL_law 1003 = .ok (.aload_n 0, 1) := by decide +kernel
theorem dL_law_1004 : decode cL_law 1004 = .ok (.iload_n 3, 1) := by decide +kernel
theorem dL_law_1005 : decode cL_law 1005 = .ok (.iconst 1, 1) := by decide +kernel
theorem dL_law_1006 : decode cL_law 1006 = .ok (.iadd, 1) := by decide +kernel
theorem dL_law_1007 : decode cL_law 1007 = .ok (.iaload, 1) := by decide +kernel
theorem dL_law_1008 : decode cL_law 1008 = .ok (.invokevirtual 123, 3) := by decide +kernel
theorem dL_law_1011 : decode cL_law 1011 = .ok (.aload_n 2, 1) := by decide +kernel
theorem dL_law_1012 : decode cL_law 1012 = .ok (.aload_n 0, 1) := by decide +kernel
theorem dL_law_1013 : decode cL_law 1013 = .ok (.iload_n 3, 1) := by decide +kernel
theorem dL_law_1014 : decode cL_law 1014 = .ok (.iconst 1, 1) := by decide +kernel
theorem dL_law_1015 : decode cL_law 1015 = .ok (.iadd, 1) := by decide +kernel
theorem dL_law_1016 : decode cL_law 1016 = .ok (.iaload, 1) := by decide +kernel
theorem dL_law_1017 : decode cL_law 1017 = .ok (.invokevirtual 126, 3) := by decide +kernel
theorem dL_law_1020 : decode cL_law 1020 = .ok (.if_icmp .eq 216, 3) := by decide +kernel
theorem dL_law_1023 : decode cL_law 1023 = .ok (.iconst 0, 1) := by decide +kernel
theorem dL_law_1024 : decode cL_law 1024 = .ok (.ireturn, 1) := by decide +kernel
theorem dL_law_1025 : decode cL_law 1025 = .ok (.aload_n 1, 1) := by decide +kernel
theorem dL_law_1026 : decode cL_law 1026 = .ok (.aload_n 0, 1) := by decide +kernel
theorem dL_law_1027 : decode cL_law 1027 = .ok (.iload_n 3, 1) := by decide +kernel
theorem dL_law_1028 : decode cL_law 1028 = .ok (.iconst 1, 1) := by decide +kernel
theorem dL_law_1029 : decode cL_law 1029 = .ok (.iadd, 1) := by decide +kernel
theorem dL_law_1030 : decode cL_law 1030 = .ok (.iaload, 1) := by decide +kernel
theorem dL_law_1031 : decode cL_law 1031 = .ok (.aload_n 0, 1) := by decide +kernel
theorem dL_law_1032 : decode cL_law 1032 = .ok (.iload_n 3, 1) := by decide +kernel
theorem dL_law_1033 : decode cL_law 1033 = .ok (.iconst 2, 1) := by decide +kernel
theorem dL_law_1034 : decode cL_law 1034 = .ok (.iadd, 1) := by decide +kernel
theorem dL_law_1035 : decode cL_law 1035 = .ok (.iaload, 1) := by decide +kernel
theorem dL_law_1036 : decode cL_law 1036 = .ok (.invokevirtual 127, 3) := by decide +kernel
theorem dL_law_1039 : decode cL_law 1039 = .ok (.aload_n 2, 1) := by decide +kernel
theorem dL_law_1040 : decode cL_law 1040 = .ok (.aload_n 0, 1) := by decide +kernel
theorem dL_law_1041 : decode cL_law 1041 = .ok (.iload_n 3, 1) := by decide +kernel
theorem dL_law_1042 : decode cL_law 1042 = .ok (.iconst 1, 1) := by decide +kernel
theorem dL_law_1043 : decode cL_law 1043 = .ok (.iadd, 1) := by decide +kernel
theorem dL_law_1044 : decode cL_law 1044 = .ok (.iaload, 1) := by decide +kernel
theorem dL_law_1045 : decode cL_law 1045 = .ok (.aload_n 0, 1) := by decide +kernel
theorem dL_law_1046 : decode cL_law 1046 = .ok (.iload_n 3, 1) := by decide +kernel
theorem dL_law_1047 : decode cL_law 1047 = .ok (.iconst 2, 1) := by decide +kernel
theorem dL_law_1048 : decode cL_law 1048 = .ok (.iadd, 1) := by decide +kernel
theorem dL_law_1049 : decode cL_law 1049 = .ok (.iaload, 1) := by decide +kernel
theorem dL_law_1050 : decode cL_law 1050 = .ok (.invokevirtual 130, 3) := by decide +kernel
theorem dL_law_1053 : decode cL_law 1053 = .ok (.if_icmp .eq 183, 3) := by decide +kernel
theorem dL_law_1056 : decode cL_law 1056 = .ok (.iconst 0, 1) := by decide +kernel
theorem dL_law_1057 : decode cL_law 1057 = .ok (.ireturn, 1) := by decide +kernel
theorem dL_law_1058 : decode cL_law 1058 = .ok (.aload_n 1, 1) := by decide +kernel
theorem dL_law_1059 : decode cL_law 1059 = .ok (.aload_n 0, 1) := by decide +kernel
theorem dL_law_1060 : decode cL_law 1060 = .ok (.iload_n 3, 1) := by decide +kernel
theorem dL_law_1061 : decode cL_law 1061 = .ok (.iconst 1, 1) := by decide +kernel
theorem dL_law_1062 : decode cL_law 1062 = .ok (.iadd, 1) := by decide +kernel
theorem dL_law_1063 : decode cL_law 1063 = .ok (.iaload, 1) := by decide +kernel
theorem dL_law_1064 : decode cL_law 1064 = .ok (.aload_n 0, 1) := by decide +kernel
theorem dL_law_1065 : decode cL_law 1065 = .ok (.iload_n 3, 1) := by decide +kernel
theorem dL_law_1066 : decode cL_law 1066 = .ok (.iconst 2, 1) := by decide +kernel
theorem dL_law_1067 : decode cL_law 1067 = .ok (.iadd, 1) := by decide +kernel
theorem dL_law_1068 : decode cL_law 1068 = .ok (.iaload, 1) := by decide +kernel
theorem dL_law_1069 : decode cL_law 1069 = .ok (.aload_n 0, 1) := by decide +kernel
theorem dL_law_1070 : decode cL_law 1070 = .ok (.iload_n 3, 1) := by decide +kernel
theorem dL_law_1071 : decode cL_law 1071 = .ok (.iconst 3, 1) := by decide +kernel
theorem dL_law_1072 : decode cL_law 1072 = .ok (.iadd, 1) := by decide +kernel
theorem dL_law_1073 : decode cL_law 1073 = .ok (.iaload, 1) := by decide +kernel
theorem dL_law_1074 : decode cL_law 1074 = .ok (.invokevirtual 131, 3) := by decide +kernel
theorem dL_law_1077 : decode cL_law 1077 = .ok (.aload_n 2, 1) := by decide +kernel
theorem dL_law_1078 : decode cL_law 1078 = .ok (.aload_n 0, 1) := by decide +kernel
theorem dL_law_1079 : decode cL_law 1079 = .ok (.iload_n 3, 1) := by decide +kernel
theorem dL_law_1080 : decode cL_law 1080 = .ok (.iconst 1, 1) := by decide +kernel
theorem dL_law_1081 : decode cL_law 1081 = .ok (.iadd, 1) := by decide +kernel
theorem dL_law_1082 : decode cL_law 1082 = .ok (.iaload, 1) := by decide +kernel
theorem dL_law_1083 : decode cL_law 1083 = .ok (.aload_n 0, 1) := by decide +kernel
theorem dL_law_1084 : decode cL_law 1084 = .ok (.iload_n 3, 1) := by decide +kernel
theorem dL_law_1085 : decode cL_law 1085 = .ok (.iconst 2, 1) := by decide +kernel
theorem dL_law_1086 : decode cL_law 1086 = .ok (.iadd, 1) := by decide +kernel
theorem dL_law_1087 : decode cL_law 1087 = .ok (.iaload, 1) := by decide +kernel
theorem dL_law_1088 : decode cL_law 1088 = .ok (.aload_n 0, 1) := by decide +kernel
theorem dL_law_1089 : decode cL_law 1089 = .ok (.iload_n 3, 1) := by decide +kernel
theorem dL_law_1090 : decode cL_law 1090 = .ok (.iconst 3, 1) := by decide +kernel
theorem dL_law_1091 : decode cL_law 1091 = .ok (.iadd, 1) := by decide +kernel
theorem dL_law_1092 : decode cL_law 1092 = .ok (.iaload, 1) := by decide +kernel
theorem dL_law_1093 : decode cL_law 1093 = .ok (.invokevirtual 134, 3) := by decide +kernel
theorem dL_law_1096 : decode cL_law 1096 = .ok (.if_icmp .eq 140, 3) := by decide +kernel
theorem dL_law_1099 : decode cL_law 1099 = .ok (.iconst 0, 1) := by decide +kernel
theorem dL_law_1100 : decode cL_law 1100 = .ok (.ireturn, 1) := by decide +kernel
theorem dL_law_1101 : decode cL_law 1101 = .ok (.aload_n 1, 1) := by decide +kernel
theorem dL_law_1102 : decode cL_law 1102 = .ok (.aload_n 0, 1) := by decide +kernel
theorem dL_law_1103 : decode cL_law 1103 = .ok (.iload_n 3, 1) := by decide +kernel
theorem dL_law_1104 : decode cL_law 1104 = .ok (.iconst 1, 1) := by decide +kernel
theorem dL_law_1105 : decode cL_law 1105 = .ok (.iadd, 1) := by decide +kernel
theorem dL_law_1106 : decode cL_law 1106 = .ok (.iaload, 1) := by decide +kernel
theorem dL_law_1107 : decode cL_law 1107 = .ok (.invokevirtual 135, 3) := by decide +kernel
theorem dL_law_1110 : decode cL_law 1110 = .ok (.aload_n 2, 1) := by decide +kernel
theorem dL_law_1111 : decode cL_law 1111 = .ok (.aload_n 0, 1) := by decide +kernel
theorem dL_law_1112 : decode cL_law 1112 = .ok (.iload_n 3, 1) := by decide +kernel
theorem dL_law_1113 : decode cL_law 1113 = .ok (.iconst 1, 1) := by decide +kernel
theorem dL_law_1114 : decode cL_law 1114 = .ok (.iadd, 1) := by decide +kernel
theorem dL_law_1115 : decode cL_law 1115 = .ok (.iaload, 1) := by decide +kernel
theorem dL_law_1116 : decode cL_law 1116 = .ok (.invokevirtual 138, 3) := by decide +kernel
theorem dL_law_1119 : decode cL_law 1119 = .ok (.if_icmp .eq 117, 3) := by decide +kernel
theorem dL_law_1122 : decode cL_law 1122 = .ok (.iconst 0, 1) := by decide +kernel
theorem dL_law_1123 : decode cL_law 1123 = .ok (.ireturn, 1) := by decide +kernel
theorem dL_law_1124 : decode cL_law 1124 = .ok (.aload_n 1, 1) := by decide +kernel
theorem dL_law_1125 : decode cL_law 1125 = .ok (.aload_n 0, 1) := by decide +kernel
theorem dL_law_1126 : decode cL_law 1126 = .ok (.iload_n 3, 1) := by decide +kernel
theorem dL_law_1127 : decode cL_law 1127 = .ok (.iconst 1, 1) := by decide +kernel
theorem dL_law_1128 : decode cL_law 1128 = .ok (.iadd, 1) := by decide +kernel
theorem dL_law_1129 : decode cL_law 1129 = .ok (.iaload, 1) := by decide +kernel
theorem dL_law_1130 : decode cL_law 1130 = .ok (.aload_n 0, 1) := by decide +kernel
theorem dL_law_1131 : decode cL_law 1131 = .ok (.iload_n 3, 1) := by decide +kernel
theorem dL_law_1132 : decode cL_law 1132 = .ok (.iconst 2, 1) := by decide +kernel
theorem dL_law_1133 : decode cL_law 1133 = .ok (.iadd, 1) := by decide +kernel
theorem dL_law_1134 : decode cL_law 1134 = .ok (.iaload, 1) := by decide +kernel
theorem dL_law_1135 : decode cL_law 1135 = .ok (.aload_n 0, 1) := by decide +kernel
theorem dL_law_1136 : decode cL_law 1136 = .ok (.iload_n 3, 1) := by decide +kernel
theorem dL_law_1137 : decode cL_law 1137 = .ok (.iconst 3, 1) := by decide +kernel
theorem dL_law_1138 : decode cL_law 1138 = .ok (.iadd, 1) := by decide +kernel
theorem dL_law_1139 : decode cL_law 1139 = .ok (.iaload, 1) := by decide +kernel
theorem dL_law_1140 : decode cL_law 1140 = .ok (.invokevirtual 139, 3) := by decide +kernel
theorem dL_law_1143 : decode cL_law 1143 = .ok (.aload_n 2, 1) := by decide +kernel
theorem dL_law_1144 : decode cL_law 1144 = .ok (.aload_n 0, 1) := by decide +kernel
theorem dL_law_1145 : decode cL_law 1145 = .ok (.iload_n 3, 1) := by decide +kernel
theorem dL_law_1146 : decode cL_law 1146 = .ok (.iconst 1, 1) := by decide +kernel
theorem dL_law_1147 : decode cL_law 1147 = .ok (.iadd, 1) := by decide +kernel
theorem dL_law_1148 : decode cL_law 1148 = .ok (.iaload, 1) := by decide +kernel
theorem dL_law_1149 : decode cL_law 1149 = .ok (.aload_n 0, 1) := by decide +kernel
theorem dL_law_1150 : decode cL_law 1150 = .ok (.iload_n 3, 1) := by decide +kernel
theorem dL_law_1151 : decode cL_law 1151 = .ok (.iconst 2, 1) := by decide +kernel
theorem dL_law_1152 : decode cL_law 1152 = .ok (.iadd, 1) := by decide +kernel
theorem dL_law_1153 : decode cL_law 1153 = .ok (.iaload, 1) := by decide +kernel
theorem dL_law_1154 : decode cL_law 1154 = .ok (.aload_n 0, 1) := by decide +kernel
theorem dL_law_1155 : decode cL_law 1155 = .ok (.iload_n 3, 1) := by decide +kernel
theorem dL_law_1156 : decode cL_law 1156 = .ok (.iconst 3, 1) := by decide +kernel
theorem dL_law_1157 : decode cL_law 1157 = .ok (.iadd, 1) := by decide +kernel
theorem dL_law_1158 : decode cL_law 1158 = .ok (.iaload, 1) := by decide +kernel
theorem dL_law_1159 : decode cL_law 1159 = .ok (.invokevirtual 142, 3) := by decide +kernel
theorem dL_law_1162 : decode cL_law 1162 = .ok (.if_icmp .eq 74, 3) := by decide +kernel
theorem dL_law_1165 : decode cL_law 1165 = .ok (.iconst 0, 1) := by decide +kernel
theorem dL_law_1166 : decode cL_law 1166 = .ok (.ireturn, 1) := by decide +kernel
theorem dL_law_1167 : decode cL_law 1167 = .ok (.aload_n 1, 1) := by decide +kernel
theorem dL_law_1168 : decode cL_law 1168 = .ok (.aload_n 0, 1) := by decide +kernel
theorem dL_law_1169 : decode cL_law 1169 = .ok (.iload_n 3, 1) := by decide +kernel
theorem dL_law_1170 : decode cL_law 1170 = .ok (.iconst 1, 1) := by decide +kernel
theorem dL_law_1171 : decode cL_law 1171 = .ok (.iadd, 1) := by decide +kernel
theorem dL_law_1172 : decode cL_law 1172 = .ok (.iaload, 1) := by decide +kernel
theorem dL_law_1173 : decode cL_law 1173 = .ok (.invokevirtual 143, 3) := by decide +kernel
theorem dL_law_1176 : decode cL_law 1176 = .ok (.aload_n 2, 1) := by decide +kernel
theorem dL_law_1177 : decode cL_law 1177 = .ok (.aload_n 0, 1) := by decide +kernel
theorem dL_law_1178 : decode cL_law 1178 = .ok (.iload_n 3, 1) := by decide +kernel
theorem dL_law_1179 : decode cL_law 1179 = .ok (.iconst 1, 1) := by decide +kernel
theorem dL_law_1180 : decode cL_law 1180 = .ok (.iadd, 1) := by decide +kernel
theorem dL_law_1181 : decode cL_law 1181 = .ok (.iaload, 1) := by decide +kernel
theorem dL_law_1182 : decode cL_law 1182 = .ok (.invokevirtual 146, 3) := by decide +kernel
theorem dL_law_1185 : decode cL_law 1185 = .ok (.if_icmp .eq 51, 3) := by decide +kernel
theorem dL_law_1188 : decode cL_law 1188 = .ok (.iconst 0, 1) := by decide +kernel
theorem dL_law_1189 : decode cL_law 1189 = .ok (.ireturn, 1) := by decide +kernel
theorem dL_law_1190 : decode cL_law 1190 = .ok (.aload_n 1, 1) := by decide +kernel
theorem dL_law_1191 : decode cL_law 1191 = .ok (.aload_n 0, 1) := by decide +kernel
theorem dL_law_1192 : decode cL_law 1192 = .ok (.iload_n 3, 1) := by decide +kernel
theorem dL_law_1193 : decode cL_law 1193 = .ok (.iconst 1, 1) := by decide +kernel
theorem dL_law_1194 : decode cL_law 1194 = .ok (.iadd, 1) := by decide +kernel
theorem dL_law_1195 : decode cL_law 1195 = .ok (.iaload, 1) := by decide +kernel
theorem dL_law_1196 : decode cL_law 1196 = .ok (.invokevirtual 147, 3) := by decide +kernel
theorem dL_law_1199 : decode cL_law 1199 = .ok (.aload_n 2, 1) := by decide +kernel
theorem dL_law_1200 : decode cL_law 1200 = .ok (.aload_n 0, 1) := by decide +kernel
theorem dL_law_1201 : decode cL_law 1201 = .ok (.iload_n 3, 1) := by decide +kernel
theorem dL_law_1202 : decode cL_law 1202 = .ok (.iconst 1, 1) := by decide +kernel
theorem dL_law_1203 : decode cL_law 1203 = .ok (.iadd, 1) := by decide +kernel
theorem dL_law_1204 : decode cL_law 1204 = .ok (.iaload, 1) := by decide +kernel
theorem dL_law_1205 : decode cL_law 1205 = .ok (.invokevirtual 150, 3) := by decide +kernel
theorem dL_law_1208 : decode cL_law 1208 = .ok (.if_icmp .eq 28, 3) := by decide +kernel
theorem dL_law_1211 : decode cL_law 1211 = .ok (.iconst 0, 1) := by decide +kernel
theorem dL_law_1212 : decode cL_law 1212 = .ok (.ireturn, 1) := by decide +kernel
theorem dL_law_1213 : decode cL_law 1213 = .ok (.aload_n 1, 1) := by decide +kernel
theorem dL_law_1214 : decode cL_law 1214 = .ok (.aload_n 0, 1) := by decide +kernel
theorem dL_law_1215 : decode cL_law 1215 = .ok (.iload_n 3, 1) := by decide +kernel
theorem dL_law_1216 : decode cL_law 1216 = .ok (.iconst 1, 1) := by decide +kernel
theorem dL_law_1217 : decode cL_law 1217 = .ok (.iadd, 1) := by decide +kernel
theorem dL_law_1218 : decode cL_law 1218 = .ok (.iaload, 1) := by decide +kernel
theorem dL_law_1219 : decode cL_law 1219 = .ok (.invokevirtual 151, 3) := by decide +kernel
theorem dL_law_1222 : decode cL_law 1222 = .ok (.aload_n 2, 1) := by decide +kernel
theorem dL_law_1223 : decode cL_law 1223 = .ok (.aload_n 0, 1) := by decide +kernel
theorem dL_law_1224 : decode cL_law 1224 = .ok (.iload_n 3, 1) := by decide +kernel
theorem dL_law_1225 : decode cL_law 1225 = .ok (.iconst 1, 1) := by decide +kernel
theorem dL_law_1226 : decode cL_law 1226 = .ok (.iadd, 1) := by decide +kernel
theorem dL_law_1227 : decode cL_law 1227 = .ok (.iaload, 1) := by decide +kernel
theorem dL_law_1228 : decode cL_law 1228 = .ok (.invokevirtual 154, 3) := by decide +kernel
theorem dL_law_1231 : decode cL_law 1231 = .ok (.if_icmp .eq 5, 3) := by decide +kernel
theorem dL_law_1234 : decode cL_law 1234 = .ok (.iconst 0, 1) := by decide +kernel
theorem dL_law_1235 : decode cL_law 1235 = .ok (.ireturn, 1) := by decide +kernel
theorem dL_law_1236 : decode cL_law 1236 = .ok (.iinc 3 6, 3) := by decide +kernel
theorem dL_law_1239 : decode cL_law 1239 = .ok (.goto (-1221), 3) := by decide +kernel
theorem dL_law_1242 : decode cL_law 1242 = .ok (.iconst 1, 1) := by decide +kernel
theorem dL_law_1243 : decode cL_law 1243 = .ok (.ireturn, 1) := by decide +kernel
