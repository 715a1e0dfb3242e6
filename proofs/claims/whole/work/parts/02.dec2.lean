theorem dX12_value_72 : decode cX12_value 72 = .ok (.iload_n 1, 1) := by decide +kernel
theorem dX12_value_73 : decode cX12_value 73 = .ok (.invokevirtual 238, 3) := by decide +kernel
theorem dX12_value_76 : decode cX12_value 76 = .ok (.return_, 1) := by decide +kernel
theorem dX12_value_77 : decode cX12_value 77 = .ok (.aload_n 0, 1) := by decide +kernel
theorem dX12_value_78 : decode cX12_value 78 = .ok (.iload_n 1, 1) := by decide +kernel
theorem dX12_value_79 : decode cX12_value 79 = .ok (.invokevirtual 251, 3) := by decide +kernel
theorem dX12_value_82 : decode cX12_value 82 = .ok (.aload_n 0, 1) := by decide +kernel
theorem dX12_value_83 : decode cX12_value 83 = .ok (.dup, 1) := by decide +kernel
theorem dX12_value_84 : decode cX12_value 84 = .ok (.getfield 202, 3) := by decide +kernel
theorem dX12_value_87 : decode cX12_value 87 = .ok (.iload_n 2, 1) := by decide +kernel
theorem dX12_value_88 : decode cX12_value 88 = .ok (.invokestatic 257, 3) := by decide +kernel
theorem dX12_value_91 : decode cX12_value 91 = .ok (.invokevirtual 213, 3) := by decide +kernel
theorem dX12_value_94 : decode cX12_value 94 = .ok (.iadd, 1) := by decide +kernel
theorem dX12_value_95 : decode cX12_value 95 = .ok (.putfield 202, 3) := by decide +kernel
theorem dX12_value_98 : decode cX12_value 98 = .ok (.aload_n 0, 1) := by decide +kernel
theorem dX12_value_99 : decode cX12_value 99 = .ok (.iconst 1, 1) := by decide +kernel
theorem dX12_value_100 : decode cX12_value 100 = .ok (.iload_n 2, 1) := by decide +kernel
theorem dX12_value_101 : decode cX12_value 101 = .ok (.invokevirtual 254, 3) := by decide +kernel
theorem dX12_value_104 : decode cX12_value 104 = .ok (.return_, 1) := by decide +kernel
theorem dX12_term_0 : decode cX12_term 0 = .ok (.aload_n 0, 1) := by decide +kernel
theorem dX12_term_1 : decode cX12_term 1 = .ok (.invokevirtual 261, 3) := by decide +kernel
theorem dX12_term_4 : decode cX12_term 4 = .ok (.aload_n 0, 1) := by decide +kernel
theorem dX12_term_5 : decode cX12_term 5 = .ok (.invokevirtual 222, 3) := by decide +kernel
theorem dX12_term_8 : decode cX12_term 8 = .ok (.aload_n 0, 1) := by decide +kernel
theorem dX12_term_9 : decode cX12_term 9 = .ok (.getfield 199, 3) := by decide +kernel
theorem dX12_term_12 : decode cX12_term 12 = .ok (.ifCond .ne 88, 3) := by decide +kernel
theorem dX12_term_15 : decode cX12_term 15 = .ok (.aload_n 0, 1) := by decide +kernel
theorem dX12_term_16 : decode cX12_term 16 = .ok (.invokevirtual 205, 3) := by decide +kernel
theorem dX12_term_19 : decode cX12_term 19 = .ok (.bipush 42, 2) := by decide +kernel
theorem dX12_term_21 : decode cX12_term 21 = .ok (.if_icmp .eq 21, 3) := by decide +kernel
theorem dX12_term_24 : decode cX12_term 24 = .ok (.aload_n 0, 1) := by decide +kernel
theorem dX12_term_25 : decode cX12_term 25 = .ok (.invokevirtual 205, 3) := by decide +kernel
theorem dX12_term_28 : decode cX12_term 28 = .ok (.bipush 47, 2) := by decide +kernel
theorem dX12_term_30 : decode cX12_term 30 = .ok (.if_icmp .eq 12, 3) := by decide +kernel
theorem dX12_term_33 : decode cX12_term 33 = .ok (.aload_n 0, 1) := by decide +kernel
theorem dX12_term_34 : decode cX12_term 34 = .ok (.invokevirtual 205, 3) := by decide +kernel
theorem dX12_term_37 : decode cX12_term 37 = .ok (.bipush 37, 2) := by decide +kernel
theorem dX12_term_39 : decode cX12_term 39 = .ok (.if_icmp .ne 61, 3) := by decide +kernel
theorem dX12_term_42 : decode cX12_term 42 = .ok (.aload_n 0, 1) := by decide +kernel
theorem dX12_term_43 : decode cX12_term 43 = .ok (.invokevirtual 205, 3) := by decide +kernel
theorem dX12_term_46 : decode cX12_term 46 = .ok (.bipush 42, 2) := by decide +kernel
theorem dX12_term_48 : decode cX12_term 48 = .ok (.if_icmp .ne 8, 3) := by decide +kernel
theorem dX12_term_51 : decode cX12_term 51 = .ok (.bipush 13, 2) := by decide +kernel
theorem dX12_term_53 : decode cX12_term 53 = .ok (.goto 19, 3) := by decide +kernel
theorem dX12_term_56 : decode cX12_term 56 = .ok (.aload_n 0, 1) := by decide +kernel
theorem dX12_term_57 : decode cX12_term 57 = .ok (.invokevirtual 205, 3) := by decide +kernel
theorem dX12_term_60 : decode cX12_term 60 = .ok (.bipush 47, 2) := by decide +kernel
theorem dX12_term_62 : decode cX12_term 62 = .ok (.if_icmp .ne 8, 3) := by decide +kernel
theorem dX12_term_65 : decode cX12_term 65 = .ok (.bipush 14, 2) := by decide +kernel
theorem dX12_term_67 : decode cX12_term 67 = .ok (.goto 5, 3) := by decide +kernel
theorem dX12_term_70 : decode cX12_term 70 = .ok (.bipush 15, 2) := by decide +kernel
theorem dX12_term_72 : decode cX12_term 72 = .ok (.istore_n 1, 1) := by decide +kernel
theorem dX12_term_73 : decode cX12_term 73 = .ok (.aload_n 0, 1) := by decide +kernel
theorem dX12_term_74 : decode cX12_term 74 = .ok (.dup, 1) := by decide +kernel
theorem dX12_term_75 : decode cX12_term 75 = .ok (.getfield 202, 3) := by decide +kernel
theorem dX12_term_78 : decode cX12_term 78 = .ok (.iconst 1, 1) := by decide +kernel
theorem dX12_term_79 : decode cX12_term 79 = .ok (.iadd, 1) := by decide +kernel
theorem dX12_term_80 : decode cX12_term 80 = .ok (.putfield 202, 3) := by decide +kernel
theorem dX12_term_83 : decode cX12_term 83 = .ok (.aload_n 0, 1) := by decide +kernel
theorem dX12_term_84 : decode cX12_term 84 = .ok (.invokevirtual 261, 3) := by decide +kernel
theorem dX12_term_87 : decode cX12_term 87 = .ok (.aload_n 0, 1) := by decide +kernel
theorem dX12_term_88 : decode cX12_term 88 = .ok (.iload_n 1, 1) := by decide +kernel
theorem dX12_term_89 : decode cX12_term 89 = .ok (.iconst 0, 1) := by decide +kernel
theorem dX12_term_90 : decode cX12_term 90 = .ok (.invokevirtual 254, 3) := by decide +kernel
theorem dX12_term_93 : decode cX12_term 93 = .ok (.aload_n 0, 1) := by decide +kernel
theorem dX12_term_94 : decode cX12_term 94 = .ok (.invokevirtual 222, 3) := by decide +kernel
theorem dX12_term_97 : decode cX12_term 97 = .ok (.goto (-89), 3) := by decide +kernel
theorem dX12_term_100 : decode cX12_term 100 = .ok (.return_, 1) := by decide +kernel
theorem dX12_sum_0 : decode cX12_sum 0 = .ok (.aload_n 0, 1) := by decide +kernel
theorem dX12_sum_1 : decode cX12_sum 1 = .ok (.invokevirtual 263, 3) := by decide +kernel
theorem dX12_sum_4 : decode cX12_sum 4 = .ok (.aload_n 0, 1) := by decide +kernel
theorem dX12_sum_5 : decode cX12_sum 5 = .ok (.getfield 199, 3) := by decide +kernel
theorem dX12_sum_8 : decode cX12_sum 8 = .ok (.ifCond .ne 59, 3) := by decide +kernel
theorem dX12_sum_11 : decode cX12_sum 11 = .ok (.aload_n 0, 1) := by decide +kernel
theorem dX12_sum_12 : decode cX12_sum 12 = .ok (.invokevirtual 205, 3) := by decide +kernel
theorem dX12_sum_15 : decode cX12_sum 15 = .ok (.bipush 43, 2) := by decide +kernel
theorem dX12_sum_17 : decode cX12_sum 17 = .ok (.if_icmp .eq 12, 3) := by decide +kernel
theorem dX12_sum_20 : decode cX12_sum 20 = .ok (.aload_n 0, 1) := by decide +kernel
theorem dX12_sum_21 : decode cX12_sum 21 = .ok (.invokevirtual 205, 3) := by decide +kernel
theorem dX12_sum_24 : decode cX12_sum 24 = .ok (.bipush 45, 2) := by decide +kernel
theorem dX12_sum_26 : decode cX12_sum 26 = .ok (.if_icmp .ne 41, 3) := by decide +kernel
theorem dX12_sum_29 : decode cX12_sum 29 = .ok (.aload_n 0, 1) := by decide +kernel
theorem dX12_sum_30 : decode cX12_sum 30 = .ok (.invokevirtual 205, 3) := by decide +kernel
theorem dX12_sum_33 : decode cX12_sum 33 = .ok (.bipush 43, 2) := by decide +kernel
theorem dX12_sum_35 : decode cX12_sum 35 = .ok (.if_icmp .ne 7, 3) := by decide +kernel
theorem dX12_sum_38 : decode cX12_sum 38 = .ok (.iconst 2, 1) := by decide +kernel
theorem dX12_sum_39 : decode cX12_sum 39 = .ok (.goto 4, 3) := by decide +kernel
theorem dX12_sum_42 : decode cX12_sum 42 = .ok (.iconst 3, 1) := by decide +kernel
theorem dX12_sum_43 : decode cX12_sum 43 = .ok (.istore_n 1, 1) := by decide +kernel
theorem dX12_sum_44 : decode cX12_sum 44 = .ok (.aload_n 0, 1) := by decide +kernel
theorem dX12_sum_45 : decode cX12_sum 45 = .ok (.dup, 1) := by decide +kernel
theorem dX12_sum_46 : decode cX12_sum 46 = .ok (.getfield 202, 3) := by decide +kernel
theorem dX12_sum_49 : decode cX12_sum 49 = .ok (.iconst 1, 1) := by decide +kernel
theorem dX12_sum_50 : decode cX12_sum 50 = .ok (.iadd, 1) := by decide +kernel
theorem dX12_sum_51 : decode cX12_sum 51 = .ok (.putfield 202, 3) := by decide +kernel
theorem dX12_sum_54 : decode cX12_sum 54 = .ok (.aload_n 0, 1) := by decide +kernel
theorem dX12_sum_55 : decode cX12_sum 55 = .ok (.invokevirtual 263, 3) := by decide +kernel
theorem dX12_sum_58 : decode cX12_sum 58 = .ok (.aload_n 0, 1) := by decide +kernel
theorem dX12_sum_59 : decode cX12_sum 59 = .ok (.iload_n 1, 1) := by decide +kernel
theorem dX12_sum_60 : decode cX12_sum 60 = .ok (.iconst 0, 1) := by decide +kernel
theorem dX12_sum_61 : decode cX12_sum 61 = .ok (.invokevirtual 254, 3) := by decide +kernel
theorem dX12_sum_64 : decode cX12_sum 64 = .ok (.goto (-60), 3) := by decide +kernel
theorem dX12_sum_67 : decode cX12_sum 67 = .ok (.return_, 1) := by decide +kernel
theorem dX12_compared_0 : decode cX12_compared 0 = .ok (.aload_n 0, 1) := by decide +kernel
theorem dX12_compared_1 : decode cX12_compared 1 = .ok (.invokevirtual 266, 3) := by decide +kernel
theorem dX12_compared_4 : decode cX12_compared 4 = .ok (.aload_n 0, 1) := by decide +kernel
theorem dX12_compared_5 : decode cX12_compared 5 = .ok (.invokevirtual 205, 3) := by decide +kernel
theorem dX12_compared_8 : decode cX12_compared 8 = .ok (.istore_n 1, 1) := by decide +kernel
theorem dX12_compared_9 : decode cX12_compared 9 = .ok (.iload_n 1, 1) := by decide +kernel
theorem dX12_compared_10 : decode cX12_compared 10 = .ok (.bipush 60, 2) := by decide +kernel
theorem dX12_compared_12 : decode cX12_compared 12 = .ok (.if_icmp .eq 25, 3) := by decide +kernel
theorem dX12_compared_15 : decode cX12_compared 15 = .ok (.iload_n 1, 1) := by decide +kernel
theorem dX12_compared_16 : decode cX12_compared 16 = .ok (.bipush 61, 2) := by decide +kernel
theorem dX12_compared_18 : decode cX12_compared 18 = .ok (.if_icmp .eq 19, 3) := by decide +kernel
theorem dX12_compared_21 : decode cX12_compared 21 = .ok (.iload_n 1, 1) := by decide +kernel
theorem dX12_compared_22 : decode cX12_compared 22 = .ok (.bipush 62, 2) := by decide +kernel
theorem dX12_compared_24 : decode cX12_compared 24 = .ok (.if_icmp .eq 13, 3) := by decide +kernel
theorem dX12_compared_27 : decode cX12_compared 27 = .ok (.aload_n 0, 1) := by decide +kernel
theorem dX12_compared_28 : decode cX12_compared 28 = .ok (.iconst 0, 1) := by decide +kernel
theorem dX12_compared_29 : decode cX12_compared 29 = .ok (.aload_n 0, 1) := by decide +kernel
theorem dX12_compared_30 : decode cX12_compared 30 = .ok (.getfield 202, 3) := by decide +kernel
theorem dX12_compared_33 : decode cX12_compared 33 = .ok (.invokevirtual 238, 3) := by decide +kernel
theorem dX12_compared_36 : decode cX12_compared 36 = .ok (.return_, 1) := by decide +kernel
theorem dX12_compared_37 : decode cX12_compared 37 = .ok (.aload_n 0, 1) := by decide +kernel
theorem dX12_compared_38 : decode cX12_compared 38 = .ok (.aload_n 0, 1) := by decide +kernel
theorem dX12_compared_39 : decode cX12_compared 39 = .ok (.getfield 202, 3) := by decide +kernel
theorem dX12_compared_42 : decode cX12_compared 42 = .ok (.invokevirtual 251, 3) := by decide +kernel
theorem dX12_compared_45 : decode cX12_compared 45 = .ok (.aload_n 0, 1) := by decide +kernel
theorem dX12_compared_46 : decode cX12_compared 46 = .ok (.dup, 1) := by decide +kernel
theorem dX12_compared_47 : decode cX12_compared 47 = .ok (.getfield 202, 3) := by decide +kernel
theorem dX12_compared_50 : decode cX12_compared 50 = .ok (.iconst 1, 1) := by decide +kernel
theorem dX12_compared_51 : decode cX12_compared 51 = .ok (.iadd, 1) := by decide +kernel
theorem dX12_compared_52 : decode cX12_compared 52 = .ok (.putfield 202, 3) := by decide +kernel
theorem dX12_compared_55 : decode cX12_compared 55 = .ok (.iload_n 1, 1) := by decide +kernel
theorem dX12_compared_56 : decode cX12_compared 56 = .ok (.bipush 61, 2) := by decide +kernel
theorem dX12_compared_58 : decode cX12_compared 58 = .ok (.if_icmp .eq 16, 3) := by decide +kernel
theorem dX12_compared_61 : decode cX12_compared 61 = .ok (.aload_n 0, 1) := by decide +kernel
theorem dX12_compared_62 : decode cX12_compared 62 = .ok (.invokevirtual 205, 3) := by decide +kernel
theorem dX12_compared_65 : decode cX12_compared 65 = .ok (.bipush 61, 2) := by decide +kernel
theorem dX12_compared_67 : decode cX12_compared 67 = .ok (.if_icmp .ne 7, 3) := by decide +kernel
theorem dX12_compared_70 : decode cX12_compared 70 = .ok (.iconst 1, 1) := by decide +kernel
theorem dX12_compared_71 : decode cX12_compared 71 = .ok (.goto 4, 3) := by decide +kernel
theorem dX12_compared_74 : decode cX12_compared 74 = .ok (.iconst 0, 1) := by decide +kernel
theorem dX12_compared_75 : decode cX12_compared 75 = .ok (.istore_n 2, 1) := by decide +kernel
theorem dX12_compared_76 : decode cX12_compared 76 = .ok (.aload_n 0, 1) := by decide +kernel
theorem dX12_compared_77 : decode cX12_compared 77 = .ok (.dup, 1) := by decide +kernel
theorem dX12_compared_78 : decode cX12_compared 78 = .ok (.getfield 202, 3) := by decide +kernel
theorem dX12_compared_81 : decode cX12_compared 81 = .ok (.iload_n 2, 1) := by decide +kernel
theorem dX12_compared_82 : decode cX12_compared 82 = .ok (.ifCond .eq 7, 3) := by decide +kernel
theorem dX12_compared_85 : decode cX12_compared 85 = .ok (.iconst 1, 1) := by decide +kernel
theorem dX12_compared_86 : decode cX12_compared 86 = .ok (.goto 4, 3) := by decide +kernel
theorem dX12_compared_89 : decode cX12_compared 89 = .ok (.iconst 0, 1) := by decide +kernel
theorem dX12_compared_90 : decode cX12_compared 90 = .ok (.iadd, 1) := by decide +kernel
theorem dX12_compared_91 : decode cX12_compared 91 = .ok (.putfield 202, 3) := by decide +kernel
theorem dX12_compared_94 : decode cX12_compared 94 = .ok (.aload_n 0, 1) := by decide +kernel
theorem dX12_compared_95 : decode cX12_compared 95 = .ok (.invokevirtual 266, 3) := by decide +kernel
theorem dX12_compared_98 : decode cX12_compared 98 = .ok (.aload_n 0, 1) := by decide +kernel
theorem dX12_compared_99 : decode cX12_compared 99 = .ok (.iload_n 1, 1) := by decide +kernel
theorem dX12_compared_100 : decode cX12_compared 100 = .ok (.bipush 61, 2) := by decide +kernel
theorem dX12_compared_102 : decode cX12_compared 102 = .ok (.if_icmp .ne 8, 3) := by decide +kernel
theorem dX12_compared_105 : decode cX12_compared 105 = .ok (.bipush 6, 2) := by decide +kernel
theorem dX12_compared_107 : decode cX12_compared 107 = .ok (.goto 32, 3) := by decide +kernel
theorem dX12_compared_110 : decode cX12_compared 110 = .ok (.iload_n 1, 1) := by decide +kernel
theorem dX12_compared_111 : decode cX12_compared 111 = .ok (.bipush 60, 2) := by decide +kernel
theorem dX12_compared_113 : decode cX12_compared 113 = .ok (.if_icmp .ne 15, 3) := by decide +kernel
theorem dX12_compared_116 : decode cX12_compared 116 = .ok (.iload_n 2, 1) := by decide +kernel
theorem dX12_compared_117 : decode cX12_compared 117 = .ok (.ifCond .eq 7, 3) := by decide +kernel
theorem dX12_compared_120 : decode cX12_compared 120 = .ok (.iconst 5, 1) := by decide +kernel
theorem dX12_compared_121 : decode cX12_compared 121 = .ok (.goto 18, 3) := by decide +kernel
theorem dX12_compared_124 : decode cX12_compared 124 = .ok (.iconst 4, 1) := by decide +kernel
theorem dX12_compared_125 : decode cX12_compared 125 = .ok (.goto 14, 3) := by decide +kernel
theorem dX12_compared_128 : decode cX12_compared 128 = .ok (.iload_n 2, 1) := by decide +kernel
theorem dX12_compared_129 : decode cX12_compared 129 = .ok (.ifCond .eq 8, 3) := by decide +kernel
theorem dX12_compared_132 : decode cX12_compared 132 = .ok (.bipush 7, 2) := by decide +kernel
theorem dX12_compared_134 : decode cX12_compared 134 = .ok (.goto 5, 3) := by decide +kernel
theorem dX12_compared_137 : decode cX12_compared 137 = .ok (.bipush 8, 2) := by decide +kernel
theorem dX12_compared_139 : decode cX12_compared 139 = .ok (.iconst 0, 1) := by decide +kernel
theorem dX12_compared_140 : decode cX12_compared 140 = .ok (.invokevirtual 254, 3) := by decide +kernel
theorem dX12_compared_143 : decode cX12_compared 143 = .ok (.return_, 1) := by decide +kernel
theorem dX12_top_0 : decode cX12_top 0 = .ok (.aload_n 0, 1) := by decide +kernel
theorem dX12_top_1 : decode cX12_top 1 = .ok (.getfield 269, 3) := by decide +kernel
theorem dX12_top_4 : decode cX12_top 4 = .ok (.ifCond .ne 7, 3) := by decide +kernel
theorem dX12_top_7 : decode cX12_top 7 = .ok (.iconst (-1), 1) := by decide +kernel
theorem dX12_top_8 : decode cX12_top 8 = .ok (.goto 14, 3) := by decide +kernel
theorem dX12_top_11 : decode cX12_top 11 = .ok (.aload_n 0, 1) := by decide +kernel
theorem dX12_top_12 : decode cX12_top 12 = .ok (.getfield 114, 3) := by decide +kernel
theorem dX12_top_15 : decode cX12_top 15 = .ok (.aload_n 0, 1) := by decide +kernel
theorem dX12_top_16 : decode cX12_top 16 = .ok (.getfield 269, 3) := by decide +kernel
theorem dX12_top_19 : decode cX12_top 19 = .ok (.iconst 1, 1) := by decide +kernel
theorem dX12_top_20 : decode cX12_top 20 = .ok (.isub, 1) := by decide +kernel
theorem dX12_top_21 : decode cX12_top 21 = .ok (.iaload, 1) := by decide +kernel
theorem dX12_top_22 : decode cX12_top 22 = .ok (.ireturn, 1) := by decide +kernel
theorem dX12_opens_0 : decode cX12_opens 0 = .ok (.iload_n 1, 1) := by decide +kernel
theorem dX12_opens_1 : decode cX12_opens 1 = .ok (.bipush 9, 2) := by decide +kernel
theorem dX12_opens_3 : decode cX12_opens 3 = .ok (.if_icmp .eq 9, 3) := by decide +kernel
theorem dX12_opens_6 : decode cX12_opens 6 = .ok (.iload_n 1, 1) := by decide +kernel
theorem dX12_opens_7 : decode cX12_opens 7 = .ok (.bipush 12, 2) := by decide +kernel
theorem dX12_opens_9 : decode cX12_opens 9 = .ok (.if_icmp .ne 31, 3) := by decide +kernel
theorem dX12_opens_12 : decode cX12_opens 12 = .ok (.aload_n 0, 1) := by decide +kernel
theorem dX12_opens_13 : decode cX12_opens 13 = .ok (.getfield 272, 3) := by decide +kernel
theorem dX12_opens_16 : decode cX12_opens 16 = .ok (.bipush 10, 2) := by decide +kernel
theorem dX12_opens_18 : decode cX12_opens 18 = .ok (.if_icmp .ne 12, 3) := by decide +kernel
theorem dX12_opens_21 : decode cX12_opens 21 = .ok (.aload_n 0, 1) := by decide +kernel
theorem dX12_opens_22 : decode cX12_opens 22 = .ok (.iconst 2, 1) := by decide +kernel
theorem dX12_opens_23 : decode cX12_opens 23 = .ok (.aload_n 0, 1) := by decide +kernel
theorem dX12_opens_24 : decode cX12_opens 24 = .ok (.getfield 202, 3) := by decide +kernel
theorem dX12_opens_27 : decode cX12_opens 27 = .ok (.invokevirtual 238, 3) := by decide +kernel
theorem dX12_opens_30 : decode cX12_opens 30 = .ok (.aload_n 0, 1) := by decide +kernel
theorem dX12_opens_31 : decode cX12_opens 31 = .ok (.dup, 1) := by decide +kernel
theorem dX12_opens_32 : decode cX12_opens 32 = .ok (.getfield 272, 3) := by decide +kernel
theorem dX12_opens_35 : decode cX12_opens 35 = .ok (.iconst 1, 1) := by decide +kernel
theorem dX12_opens_36 : decode cX12_opens 36 = .ok (.iadd, 1) := by decide +kernel
theorem dX12_opens_37 : decode cX12_opens 37 = .ok (.putfield 272, 3) := by decide +kernel
theorem dX12_opens_40 : decode cX12_opens 40 = .ok (.aload_n 0, 1) := by decide +kernel
theorem dX12_opens_41 : decode cX12_opens 41 = .ok (.getfield 114, 3) := by decide +kernel
theorem dX12_opens_44 : decode cX12_opens 44 = .ok (.aload_n 0, 1) := by decide +kernel
theorem dX12_opens_45 : decode cX12_opens 45 = .ok (.getfield 269, 3) := by decide +kernel
theorem dX12_opens_48 : decode cX12_opens 48 = .ok (.iload_n 1, 1) := by decide +kernel
theorem dX12_opens_49 : decode cX12_opens 49 = .ok (.iastore, 1) := by decide +kernel
theorem dX12_opens_50 : decode cX12_opens 50 = .ok (.aload_n 0, 1) := by decide +kernel
theorem dX12_opens_51 : decode cX12_opens 51 = .ok (.dup, 1) := by decide +kernel
theorem dX12_opens_52 : decode cX12_opens 52 = .ok (.getfield 269, 3) := by decide +kernel
theorem dX12_opens_55 : decode cX12_opens 55 = .ok (.iconst 1, 1) := by decide +kernel
theorem dX12_opens_56 : decode cX12_opens 56 = .ok (.iadd, 1) := by decide +kernel
theorem dX12_opens_57 : decode cX12_opens 57 = .ok (.putfield 269, 3) := by decide +kernel
theorem dX12_opens_60 : decode cX12_opens 60 = .ok (.return_, 1) := by decide +kernel
theorem dX12_answers_0 : decode cX12_answers 0 = .ok (.aload_n 0, 1) := by decide +kernel
theorem dX12_answers_1 : decode cX12_answers 1 = .ok (.invokevirtual 275, 3) := by decide +kernel
theorem dX12_answers_4 : decode cX12_answers 4 = .ok (.iload_n 1, 1) := by decide +kernel
theorem dX12_answers_5 : decode cX12_answers 5 = .ok (.if_icmp .ne 49, 3) := by decide +kernel
theorem dX12_answers_8 : decode cX12_answers 8 = .ok (.aload_n 0, 1) := by decide +kernel
theorem dX12_answers_9 : decode cX12_answers 9 = .ok (.getfield 199, 3) := by decide +kernel
theorem dX12_answers_12 : decode cX12_answers 12 = .ok (.ifCond .ne 42, 3) := by decide +kernel
theorem dX12_answers_15 : decode cX12_answers 15 = .ok (.aload_n 0, 1) := by decide +kernel
theorem dX12_answers_16 : decode cX12_answers 16 = .ok (.iload_n 1, 1) := by decide +kernel
theorem dX12_answers_17 : decode cX12_answers 17 = .ok (.iconst 0, 1) := by decide +kernel
theorem dX12_answers_18 : decode cX12_answers 18 = .ok (.invokevirtual 254, 3) := by decide +kernel
theorem dX12_answers_21 : decode cX12_answers 21 = .ok (.aload_n 0, 1) := by decide +kernel
theorem dX12_answers_22 : decode cX12_answers 22 = .ok (.dup, 1) := by decide +kernel
theorem dX12_answers_23 : decode cX12_answers 23 = .ok (.getfield 269, 3) := by decide +kernel
theorem dX12_answers_26 : decode cX12_answers 26 = .ok (.iconst 1, 1) := by decide +kernel
theorem dX12_answers_27 : decode cX12_answers 27 = .ok (.isub, 1) := by decide +kernel
theorem dX12_answers_28 : decode cX12_answers 28 = .ok (.putfield 269, 3) := by decide +kernel
theorem dX12_answers_31 : decode cX12_answers 31 = .ok (.aload_n 0, 1) := by decide +kernel
theorem dX12_answers_32 : decode cX12_answers 32 = .ok (.dup, 1) := by decide +kernel
theorem dX12_answers_33 : decode cX12_answers 33 = .ok (.getfield 272, 3) := by decide +kernel
theorem dX12_answers_36 : decode cX12_answers 36 = .ok (.iload_n 1, 1) := by decide +kernel
theorem dX12_answers_37 : decode cX12_answers 37 = .ok (.bipush 9, 2) := by decide +kernel
theorem dX12_answers_39 : decode cX12_answers 39 = .ok (.if_icmp .ne 7, 3) := by decide +kernel
theorem dX12_answers_42 : decode cX12_answers 42 = .ok (.iconst 1, 1) := by decide +kernel
theorem dX12_answers_43 : decode cX12_answers 43 = .ok (.goto 4, 3) := by decide +kernel
theorem dX12_answers_46 : decode cX12_answers 46 = .ok (.iconst 0, 1) := by decide +kernel
theorem dX12_answers_47 : decode cX12_answers 47 = .ok (.isub, 1) := by decide +kernel
theorem dX12_answers_48 : decode cX12_answers 48 = .ok (.putfield 272, 3) := by decide +kernel
theorem dX12_answers_51 : decode cX12_answers 51 = .ok (.goto (-51), 3) := by decide +kernel
theorem dX12_answers_54 : decode cX12_answers 54 = .ok (.return_, 1) := by decide +kernel
theorem dX12_fact_0 : decode cX12_fact 0 = .ok (.aload_n 0, 1) := by decide +kernel
theorem dX12_fact_1 : decode cX12_fact 1 = .ok (.invokevirtual 222, 3) := by decide +kernel
theorem dX12_fact_4 : decode cX12_fact 4 = .ok (.aload_n 0, 1) := by decide +kernel
theorem dX12_fact_5 : decode cX12_fact 5 = .ok (.ldc_w 277, 3) := by decide +kernel
theorem dX12_fact_8 : decode cX12_fact 8 = .ok (.invokevirtual 225, 3) := by decide +kernel
theorem dX12_fact_11 : decode cX12_fact 11 = .ok (.ifCond .eq 21, 3) := by decide +kernel
theorem dX12_fact_14 : decode cX12_fact 14 = .ok (.aload_n 0, 1) := by decide +kernel
theorem dX12_fact_15 : decode cX12_fact 15 = .ok (.bipush 9, 2) := by decide +kernel
theorem dX12_fact_17 : decode cX12_fact 17 = .ok (.invokevirtual 279, 3) := by decide +kernel
theorem dX12_fact_20 : decode cX12_fact 20 = .ok (.aload_n 0, 1) := by decide +kernel
theorem dX12_fact_21 : decode cX12_fact 21 = .ok (.dup, 1) := by decide +kernel
theorem dX12_fact_22 : decode cX12_fact 22 = .ok (.getfield 202, 3) := by decide +kernel
theorem dX12_fact_25 : decode cX12_fact 25 = .ok (.iconst 3, 1) := by decide +kernel
theorem dX12_fact_26 : decode cX12_fact 26 = .ok (.iadd, 1) := by decide +kernel
theorem dX12_fact_27 : decode cX12_fact 27 = .ok (.putfield 202, 3) := by decide +kernel
theorem dX12_fact_30 : decode cX12_fact 30 = .ok (.iconst 0, 1) := by decide +kernel
theorem dX12_fact_31 : decode cX12_fact 31 = .ok (.ireturn, 1) := by decide +kernel
theorem dX12_fact_32 : decode cX12_fact 32 = .ok (.aload_n 0, 1) := by decide +kernel
theorem dX12_fact_33 : decode cX12_fact 33 = .ok (.invokevirtual 205, 3) := by decide +kernel
theorem dX12_fact_36 : decode cX12_fact 36 = .ok (.bipush 91, 2) := by decide +kernel
theorem dX12_fact_38 : decode cX12_fact 38 = .ok (.if_icmp .ne 21, 3) := by decide +kernel
theorem dX12_fact_41 : decode cX12_fact 41 = .ok (.aload_n 0, 1) := by decide +kernel
theorem dX12_fact_42 : decode cX12_fact 42 = .ok (.bipush 12, 2) := by decide +kernel
theorem dX12_fact_44 : decode cX12_fact 44 = .ok (.invokevirtual 279, 3) := by decide +kernel
theorem dX12_fact_47 : decode cX12_fact 47 = .ok (.aload_n 0, 1) := by decide +kernel
theorem dX12_fact_48 : decode cX12_fact 48 = .ok (.dup, 1) := by decide +kernel
theorem dX12_fact_49 : decode cX12_fact 49 = .ok (.getfield 202, 3) := by decide +kernel
theorem dX12_fact_52 : decode cX12_fact 52 = .ok (.iconst 1, 1) := by decide +kernel
theorem dX12_fact_53 : decode cX12_fact 53 = .ok (.iadd, 1) := by decide +kernel
theorem dX12_fact_54 : decode cX12_fact 54 = .ok (.putfield 202, 3) := by decide +kernel
theorem dX12_fact_57 : decode cX12_fact 57 = .ok (.iconst 0, 1) := by decide +kernel
theorem dX12_fact_58 : decode cX12_fact 58 = .ok (.ireturn, 1) := by decide +kernel
theorem dX12_fact_59 : decode cX12_fact 59 = .ok (.aload_n 0, 1) := by decide +kernel
theorem dX12_fact_60 : decode cX12_fact 60 = .ok (.invokevirtual 282, 3) := by decide +kernel
theorem dX12_fact_63 : decode cX12_fact 63 = .ok (.iconst 1, 1) := by decide +kernel
theorem dX12_fact_64 : decode cX12_fact 64 = .ok (.ireturn, 1) := by decide +kernel
theorem dX12_test_0 : decode cX12_test 0 = .ok (.aload_n 0, 1) := by decide +kernel
theorem dX12_test_1 : decode cX12_test 1 = .ok (.iconst 0, 1) := by decide +kernel
theorem dX12_test_2 : decode cX12_test 2 = .ok (.putfield 269, 3) := by decide +kernel
theorem dX12_test_5 : decode cX12_test 5 = .ok (.iconst 1, 1) := by decide +kernel
theorem dX12_test_6 : decode cX12_test 6 = .ok (.istore_n 1, 1) := by decide +kernel
theorem dX12_test_7 : decode cX12_test 7 = .ok (.iconst 1, 1) := by decide +kernel
theorem dX12_test_8 : decode cX12_test 8 = .ok (.istore_n 2, 1) := by decide +kernel
theorem dX12_test_9 : decode cX12_test 9 = .ok (.iload_n 2, 1) := by decide +kernel
theorem dX12_test_10 : decode cX12_test 10 = .ok (.ifCond .eq 192, 3) := by decide +kernel
theorem dX12_test_13 : decode cX12_test 13 = .ok (.aload_n 0, 1) := by decide +kernel
theorem dX12_test_14 : decode cX12_test 14 = .ok (.getfield 199, 3) := by decide +kernel
theorem dX12_test_17 : decode cX12_test 17 = .ok (.ifCond .ne 185, 3) := by decide +kernel
theorem dX12_test_20 : decode cX12_test 20 = .ok (.iload_n 1, 1) := by decide +kernel
theorem dX12_test_21 : decode cX12_test 21 = .ok (.ifCond .eq 19, 3) := by decide +kernel
theorem dX12_test_24 : decode cX12_test 24 = .ok (.aload_n 0, 1) := by decide +kernel
theorem dX12_test_25 : decode cX12_test 25 = .ok (.invokevirtual 285, 3) := by decide +kernel
theorem dX12_test_28 : decode cX12_test 28 = .ok (.ifCond .ne 7, 3) := by decide +kernel
theorem dX12_test_31 : decode cX12_test 31 = .ok (.iconst 1, 1) := by decide +kernel
theorem dX12_test_32 : decode cX12_test 32 = .ok (.goto 4, 3) := by decide +kernel
theorem dX12_test_35 : decode cX12_test 35 = .ok (.iconst 0, 1) := by decide +kernel
theorem dX12_test_36 : decode cX12_test 36 = .ok (.istore_n 1, 1) := by decide +kernel
theorem dX12_test_37 : decode cX12_test 37 = .ok (.goto (-28), 3) := by decide +kernel
theorem dX12_test_40 : decode cX12_test 40 = .ok (.aload_n 0, 1) := by decide +kernel
theorem dX12_test_41 : decode cX12_test 41 = .ok (.bipush 9, 2) := by decide +kernel
theorem dX12_test_43 : decode cX12_test 43 = .ok (.invokevirtual 288, 3) := by decide +kernel
theorem dX12_test_46 : decode cX12_test 46 = .ok (.aload_n 0, 1) := by decide +kernel
theorem dX12_test_47 : decode cX12_test 47 = .ok (.invokevirtual 222, 3) := by decide +kernel
theorem dX12_test_50 : decode cX12_test 50 = .ok (.aload_n 0, 1) := by decide +kernel
theorem dX12_test_51 : decode cX12_test 51 = .ok (.ldc_w 291, 3) := by decide +kernel
theorem dX12_test_54 : decode cX12_test 54 = .ok (.invokevirtual 225, 3) := by decide +kernel
theorem dX12_test_57 : decode cX12_test 57 = .ok (.istore_n 3, 1) := by decide +kernel
theorem dX12_test_58 : decode cX12_test 58 = .ok (.aload_n 0, 1) := by decide +kernel
theorem dX12_test_59 : decode cX12_test 59 = .ok (.ldc_w 293, 3) := by decide +kernel
theorem dX12_test_62 : decode cX12_test 62 = .ok (.invokevirtual 225, 3) := by decide +kernel
theorem dX12_test_65 : decode cX12_test 65 = .ok (.istore 4, 2) := by decide +kernel
theorem dX12_test_67 : decode cX12_test 67 = .ok (.aload_n 0, 1) := by decide +kernel
theorem dX12_test_68 : decode cX12_test 68 = .ok (.bipush 10, 2) := by decide +kernel
theorem dX12_test_70 : decode cX12_test 70 = .ok (.invokevirtual 288, 3) := by decide +kernel
theorem dX12_test_73 : decode cX12_test 73 = .ok (.iload_n 3, 1) := by decide +kernel
theorem dX12_test_74 : decode cX12_test 74 = .ok (.ifCond .ne 8, 3) := by decide +kernel
theorem dX12_test_77 : decode cX12_test 77 = .ok (.iload 4, 2) := by decide +kernel
theorem dX12_test_79 : decode cX12_test 79 = .ok (.ifCond .eq 52, 3) := by decide +kernel
theorem dX12_test_82 : decode cX12_test 82 = .ok (.iload 4, 2) := by decide +kernel
theorem dX12_test_84 : decode cX12_test 84 = .ok (.ifCond .eq 9, 3) := by decide +kernel
theorem dX12_test_87 : decode cX12_test 87 = .ok (.aload_n 0, 1) := by decide +kernel
theorem dX12_test_88 : decode cX12_test 88 = .ok (.bipush 11, 2) := by decide +kernel
theorem dX12_test_90 : decode cX12_test 90 = .ok (.invokevirtual 288, 3) := by decide +kernel
theorem dX12_test_93 : decode cX12_test 93 = .ok (.aload_n 0, 1) := by decide +kernel
theorem dX12_test_94 : decode cX12_test 94 = .ok (.iload_n 3, 1) := by decide +kernel
theorem dX12_test_95 : decode cX12_test 95 = .ok (.ifCond .eq 8, 3) := by decide +kernel
theorem dX12_test_98 : decode cX12_test 98 = .ok (.bipush 10, 2) := by decide +kernel
theorem dX12_test_100 : decode cX12_test 100 = .ok (.goto 5, 3) := by decide +kernel
theorem dX12_test_103 : decode cX12_test 103 = .ok (.bipush 11, 2) := by decide +kernel
theorem dX12_test_105 : decode cX12_test 105 = .ok (.invokevirtual 279, 3) := by decide +kernel
theorem dX12_test_108 : decode cX12_test 108 = .ok (.aload_n 0, 1) := by decide +kernel
theorem dX12_test_109 : decode cX12_test 109 = .ok (.dup, 1) := by decide +kernel
theorem dX12_test_110 : decode cX12_test 110 = .ok (.getfield 202, 3) := by decide +kernel
theorem dX12_test_113 : decode cX12_test 113 = .ok (.iload_n 3, 1) := by decide +kernel
theorem dX12_test_114 : decode cX12_test 114 = .ok (.ifCond .eq 7, 3) := by decide +kernel
theorem dX12_test_117 : decode cX12_test 117 = .ok (.iconst 3, 1) := by decide +kernel
theorem dX12_test_118 : decode cX12_test 118 = .ok (.goto 4, 3) := by decide +kernel
theorem dX12_test_121 : decode cX12_test 121 = .ok (.iconst 2, 1) := by decide +kernel
theorem dX12_test_122 : decode cX12_test 122 = .ok (.iadd, 1) := by decide +kernel
theorem dX12_test_123 : decode cX12_test 123 = .ok (.putfield 202, 3) := by decide +kernel
theorem dX12_test_126 : decode cX12_test 126 = .ok (.iconst 1, 1) := by decide +kernel
theorem dX12_test_127 : decode cX12_test 127 = .ok (.istore_n 1, 1) := by decide +kernel
theorem dX12_test_128 : decode cX12_test 128 = .ok (.goto 71, 3) := by decide +kernel
theorem dX12_test_131 : decode cX12_test 131 = .ok (.aload_n 0, 1) := by decide +kernel
theorem dX12_test_132 : decode cX12_test 132 = .ok (.bipush 11, 2) := by decide +kernel
theorem dX12_test_134 : decode cX12_test 134 = .ok (.invokevirtual 288, 3) := by decide +kernel
theorem dX12_test_137 : decode cX12_test 137 = .ok (.aload_n 0, 1) := by decide +kernel
theorem dX12_test_138 : decode cX12_test 138 = .ok (.invokevirtual 275, 3) := by decide +kernel
theorem dX12_test_141 : decode cX12_test 141 = .ok (.bipush 12, 2) := by decide +kernel
theorem dX12_test_143 : decode cX12_test 143 = .ok (.if_icmp .ne 54, 3) := by decide +kernel
theorem dX12_test_146 : decode cX12_test 146 = .ok (.aload_n 0, 1) := by decide +kernel
theorem dX12_test_147 : decode cX12_test 147 = .ok (.invokevirtual 205, 3) := by decide +kernel
theorem dX12_test_150 : decode cX12_test 150 = .ok (.bipush 93, 2) := by decide +kernel
theorem dX12_test_152 : decode cX12_test 152 = .ok (.if_icmp .eq 12, 3) := by decide +kernel
theorem dX12_test_155 : decode cX12_test 155 = .ok (.aload_n 0, 1) := by decide +kernel
theorem dX12_test_156 : decode cX12_test 156 = .ok (.iconst 0, 1) := by decide +kernel
theorem dX12_test_157 : decode cX12_test 157 = .ok (.aload_n 0, 1) := by decide +kernel
theorem dX12_test_158 : decode cX12_test 158 = .ok (.getfield 202, 3) := by decide +kernel
theorem dX12_test_161 : decode cX12_test 161 = .ok (.invokevirtual 238, 3) := by decide +kernel
theorem dX12_test_164 : decode cX12_test 164 = .ok (.aload_n 0, 1) := by decide +kernel
theorem dX12_test_165 : decode cX12_test 165 = .ok (.dup, 1) := by decide +kernel
theorem dX12_test_166 : decode cX12_test 166 = .ok (.getfield 202, 3) := by decide +kernel
theorem dX12_test_169 : decode cX12_test 169 = .ok (.iconst 1, 1) := by decide +kernel
theorem dX12_test_170 : decode cX12_test 170 = .ok (.iadd, 1) := by decide +kernel
theorem dX12_test_171 : decode cX12_test 171 = .ok (.putfield 202, 3) := by decide +kernel
theorem dX12_test_174 : decode cX12_test 174 = .ok (.aload_n 0, 1) := by decide +kernel
theorem dX12_test_175 : decode cX12_test 175 = .ok (.dup, 1) := by decide +kernel
theorem dX12_test_176 : decode cX12_test 176 = .ok (.getfield 269, 3) := by decide +kernel
theorem dX12_test_179 : decode cX12_test 179 = .ok (.iconst 1, 1) := by decide +kernel
theorem dX12_test_180 : decode cX12_test 180 = .ok (.isub, 1) := by decide +kernel
theorem dX12_test_181 : decode cX12_test 181 = .ok (.putfield 269, 3) := by decide +kernel
theorem dX12_test_184 : decode cX12_test 184 = .ok (.aload_n 0, 1) := by decide +kernel
theorem dX12_test_185 : decode cX12_test 185 = .ok (.dup, 1) := by decide +kernel
theorem dX12_test_186 : decode cX12_test 186 = .ok (.getfield 272, 3) := by decide +kernel
theorem dX12_test_189 : decode cX12_test 189 = .ok (.iconst 1, 1) := by decide +kernel
theorem dX12_test_190 : decode cX12_test 190 = .ok (.isub, 1) := by decide +kernel
theorem dX12_test_191 : decode cX12_test 191 = .ok (.putfield 272, 3) := by decide +kernel
theorem dX12_test_194 : decode cX12_test 194 = .ok (.goto 5, 3) := by decide +kernel
theorem dX12_test_197 : decode cX12_test 197 = .ok (.iconst 0, 1) := by decide +kernel
theorem dX12_test_198 : decode cX12_test 198 = .ok (.istore_n 2, 1) := by decide +kernel
theorem dX12_test_199 : decode cX12_test 199 = .ok (.goto (-190), 3) := by decide +kernel
theorem dX12_test_202 : decode cX12_test 202 = .ok (.return_, 1) := by decide +kernel
theorem dX12_amount_0 : decode cX12_amount 0 = .ok (.aload_n 0, 1) := by decide +kernel
theorem dX12_amount_1 : decode cX12_amount 1 = .ok (.invokevirtual 222, 3) := by decide +kernel
theorem dX12_amount_4 : decode cX12_amount 4 = .ok (.aload_n 0, 1) := by decide +kernel
theorem dX12_amount_5 : decode cX12_amount 5 = .ok (.getfield 202, 3) := by decide +kernel
theorem dX12_amount_8 : decode cX12_amount 8 = .ok (.istore_n 3, 1) := by decide +kernel
theorem dX12_amount_9 : decode cX12_amount 9 = .ok (.aload_n 0, 1) := by decide +kernel
theorem dX12_amount_10 : decode cX12_amount 10 = .ok (.getfield 199, 3) := by decide +kernel
theorem dX12_amount_13 : decode cX12_amount 13 = .ok (.ifCond .ne 12, 3) := by decide +kernel
theorem dX12_amount_16 : decode cX12_amount 16 = .ok (.aload_n 0, 1) := by decide +kernel
theorem dX12_amount_17 : decode cX12_amount 17 = .ok (.ldc 246, 2) := by decide +kernel
theorem dX12_amount_19 : decode cX12_amount 19 = .ok (.invokevirtual 247, 3) := by decide +kernel
theorem dX12_amount_22 : decode cX12_amount 22 = .ok (.goto 4, 3) := by decide +kernel
theorem dX12_amount_25 : decode cX12_amount 25 = .ok (.iconst 0, 1) := by decide +kernel
theorem dX12_amount_26 : decode cX12_amount 26 = .ok (.istore 4, 2) := by decide +kernel
theorem dX12_amount_28 : decode cX12_amount 28 = .ok (.aload_n 0, 1) := by decide +kernel
theorem dX12_amount_29 : decode cX12_amount 29 = .ok (.getfield 199, 3) := by decide +kernel
theorem dX12_amount_32 : decode cX12_amount 32 = .ok (.ifCond .ne 22, 3) := by decide +kernel
theorem dX12_amount_35 : decode cX12_amount 35 = .ok (.iload 4, 2) := by decide +kernel
theorem dX12_amount_37 : decode cX12_amount 37 = .ok (.i2l, 1) := by decide +kernel
theorem dX12_amount_38 : decode cX12_amount 38 = .ok (.iload_n 1, 1) := by decide +kernel
theorem dX12_amount_39 : decode cX12_amount 39 = .ok (.i2l, 1) := by decide +kernel
theorem dX12_amount_40 : decode cX12_amount 40 = .ok (.iload_n 2, 1) := by decide +kernel
theorem dX12_amount_41 : decode cX12_amount 41 = .ok (.i2l, 1) := by decide +kernel
theorem dX12_amount_42 : decode cX12_amount 42 = .ok (.invokestatic 164, 3) := by decide +kernel
theorem dX12_amount_45 : decode cX12_amount 45 = .ok (.ifCond .ne 9, 3) := by decide +kernel
theorem dX12_amount_48 : decode cX12_amount 48 = .ok (.aload_n 0, 1) := by decide +kernel
theorem dX12_amount_49 : decode cX12_amount 49 = .ok (.iconst 1, 1) := by decide +kernel
theorem dX12_amount_50 : decode cX12_amount 50 = .ok (.iload_n 3, 1) := by decide +kernel
theorem dX12_amount_51 : decode cX12_amount 51 = .ok (.invokevirtual 238, 3) := by decide +kernel
theorem dX12_amount_54 : decode cX12_amount 54 = .ok (.iload 4, 2) := by decide +kernel
theorem dX12_amount_56 : decode cX12_amount 56 = .ok (.ireturn, 1) := by decide +kernel
theorem dX12_streetWord_0 : decode cX12_streetWord 0 = .ok (.iload_n 0, 1) := by decide +kernel
theorem dX12_streetWord_1 : decode cX12_streetWord 1 = .ok (.tableswitch 60 0 5 #[39, 43, 46, 49, 53, 57], 39) := by decide +kernel
theorem dX12_streetWord_40 : decode cX12_streetWord 40 = .ok (.ldc_w 295, 3) := by decide +kernel
theorem dX12_streetWord_43 : decode cX12_streetWord 43 = .ok (.areturn, 1) := by decide +kernel
theorem dX12_streetWord_44 : decode cX12_streetWord 44 = .ok (.ldc 179, 2) := by decide +kernel
theorem dX12_streetWord_46 : decode cX12_streetWord 46 = .ok (.areturn, 1) := by decide +kernel
theorem dX12_streetWord_47 : decode cX12_streetWord 47 = .ok (.ldc 175, 2) := by decide +kernel
theorem dX12_streetWord_49 : decode cX12_streetWord 49 = .ok (.areturn, 1) := by decide +kernel
theorem dX12_streetWord_50 : decode cX12_streetWord 50 = .ok (.ldc_w 297, 3) := by decide +kernel
theorem dX12_streetWord_53 : decode cX12_streetWord 53 = .ok (.areturn, 1) := by decide +kernel
theorem dX12_streetWord_54 : decode cX12_streetWord 54 = .ok (.ldc_w 299, 3) := by decide +kernel
theorem dX12_streetWord_57 : decode cX12_streetWord 57 = .ok (.areturn, 1) := by decide +kernel
theorem dX12_streetWord_58 : decode cX12_streetWord 58 = .ok (.ldc 197, 2) := by decide +kernel
theorem dX12_streetWord_60 : decode cX12_streetWord 60 = .ok (.areturn, 1) := by decide +kernel
theorem dX12_streetWord_61 : decode cX12_streetWord 61 = .ok (.ldc_w 301, 3) := by decide +kernel
theorem dX12_streetWord_64 : decode cX12_streetWord 64 = .ok (.areturn, 1) := by decide +kernel
theorem dX12_readsThing_0 : decode cX12_readsThing 0 = .ok (.aload_n 0, 1) := by decide +kernel
theorem dX12_readsThing_1 : decode cX12_readsThing 1 = .ok (.getfield 61, 3) := by decide +kernel
theorem dX12_readsThing_4 : decode cX12_readsThing 4 = .ok (.iconst 3, 1) := by decide +kernel
theorem dX12_readsThing_5 : decode cX12_readsThing 5 = .ok (.iaload, 1) := by decide +kernel
theorem dX12_readsThing_6 : decode cX12_readsThing 6 = .ok (.istore_n 1, 1) := by decide +kernel
theorem dX12_readsThing_7 : decode cX12_readsThing 7 = .ok (.bipush 16, 2) := by decide +kernel
theorem dX12_readsThing_9 : decode cX12_readsThing 9 = .ok (.aload_n 0, 1) := by decide +kernel
theorem dX12_readsThing_10 : decode cX12_readsThing 10 = .ok (.getfield 61, 3) := by decide +kernel
theorem dX12_readsThing_13 : decode cX12_readsThing 13 = .ok (.iconst 4, 1) := by decide +kernel
theorem dX12_readsThing_14 : decode cX12_readsThing 14 = .ok (.iaload, 1) := by decide +kernel
theorem dX12_readsThing_15 : decode cX12_readsThing 15 = .ok (.isub, 1) := by decide +kernel
theorem dX12_readsThing_16 : decode cX12_readsThing 16 = .ok (.istore_n 2, 1) := by decide +kernel
theorem dX12_readsThing_17 : decode cX12_readsThing 17 = .ok (.aload_n 0, 1) := by decide +kernel
theorem dX12_readsThing_18 : decode cX12_readsThing 18 = .ok (.iconst 1, 1) := by decide +kernel
theorem dX12_readsThing_19 : decode cX12_readsThing 19 = .ok (.iload_n 2, 1) := by decide +kernel
theorem dX12_readsThing_20 : decode cX12_readsThing 20 = .ok (.bipush 6, 2) := by decide +kernel
theorem dX12_readsThing_22 : decode cX12_readsThing 22 = .ok (.if_icmp .ge 7, 3) := by decide +kernel
theorem dX12_readsThing_25 : decode cX12_readsThing 25 = .ok (.iload_n 2, 1) := by decide +kernel
theorem dX12_readsThing_26 : decode cX12_readsThing 26 = .ok (.goto 5, 3) := by decide +kernel
theorem dX12_readsThing_29 : decode cX12_readsThing 29 = .ok (.bipush 6, 2) := by decide +kernel
theorem dX12_readsThing_31 : decode cX12_readsThing 31 = .ok (.invokevirtual 303, 3) := by decide +kernel
theorem dX12_readsThing_34 : decode cX12_readsThing 34 = .ok (.istore_n 3, 1) := by decide +kernel
theorem dX12_readsThing_35 : decode cX12_readsThing 35 = .ok (.aload_n 0, 1) := by decide +kernel
theorem dX12_readsThing_36 : decode cX12_readsThing 36 = .ok (.getfield 67, 3) := by decide +kernel
theorem dX12_readsThing_39 : decode cX12_readsThing 39 = .ok (.iload_n 1, 1) := by decide +kernel
theorem dX12_readsThing_40 : decode cX12_readsThing 40 = .ok (.aload_n 0, 1) := by decide +kernel
theorem dX12_readsThing_41 : decode cX12_readsThing 41 = .ok (.iconst 0, 1) := by decide +kernel
theorem dX12_readsThing_42 : decode cX12_readsThing 42 = .ok (.bipush 20, 2) := by decide +kernel
theorem dX12_readsThing_44 : decode cX12_readsThing 44 = .ok (.invokevirtual 303, 3) := by decide +kernel
theorem dX12_readsThing_47 : decode cX12_readsThing 47 = .ok (.iastore, 1) := by decide +kernel
theorem dX12_readsThing_48 : decode cX12_readsThing 48 = .ok (.aload_n 0, 1) := by decide +kernel
theorem dX12_readsThing_49 : decode cX12_readsThing 49 = .ok (.getfield 199, 3) := by decide +kernel
theorem dX12_readsThing_52 : decode cX12_readsThing 52 = .ok (.ifCond .ne 13, 3) := by decide +kernel
theorem dX12_readsThing_55 : decode cX12_readsThing 55 = .ok (.aload_n 0, 1) := by decide +kernel
theorem dX12_readsThing_56 : decode cX12_readsThing 56 = .ok (.getfield 61, 3) := by decide +kernel
theorem dX12_readsThing_59 : decode cX12_readsThing 59 = .ok (.iconst 4, 1) := by decide +kernel
theorem dX12_readsThing_60 : decode cX12_readsThing 60 = .ok (.dup2, 1) := by decide +kernel
theorem dX12_readsThing_61 : decode cX12_readsThing 61 = .ok (.iaload, 1) := by decide +kernel
theorem dX12_readsThing_62 : decode cX12_readsThing 62 = .ok (.iload_n 3, 1) := by decide +kernel
theorem dX12_readsThing_63 : decode cX12_readsThing 63 = .ok (.iadd, 1) := by decide +kernel
theorem dX12_readsThing_64 : decode cX12_readsThing 64 = .ok (.iastore, 1) := by decide +kernel
theorem dX12_readsThing_65 : decode cX12_readsThing 65 = .ok (.aload_n 0, 1) := by decide +kernel
theorem dX12_readsThing_66 : decode cX12_readsThing 66 = .ok (.getfield 61, 3) := by decide +kernel
theorem dX12_readsThing_69 : decode cX12_readsThing 69 = .ok (.iconst 3, 1) := by decide +kernel
theorem dX12_readsThing_70 : decode cX12_readsThing 70 = .ok (.dup2, 1) := by decide +kernel
theorem dX12_readsThing_71 : decode cX12_readsThing 71 = .ok (.iaload, 1) := by decide +kernel
theorem dX12_readsThing_72 : decode cX12_readsThing 72 = .ok (.iconst 1, 1) := by decide +kernel
theorem dX12_readsThing_73 : decode cX12_readsThing 73 = .ok (.iadd, 1) := by decide +kernel
theorem dX12_readsThing_74 : decode cX12_readsThing 74 = .ok (.iastore, 1) := by decide +kernel
theorem dX12_readsThing_75 : decode cX12_readsThing 75 = .ok (.aload_n 0, 1) := by decide +kernel
theorem dX12_readsThing_76 : decode cX12_readsThing 76 = .ok (.getfield 64, 3) := by decide +kernel
theorem dX12_readsThing_79 : decode cX12_readsThing 79 = .ok (.iload_n 1, 1) := by decide +kernel
theorem dX12_readsThing_80 : decode cX12_readsThing 80 = .ok (.iconst 1, 1) := by decide +kernel
theorem dX12_readsThing_81 : decode cX12_readsThing 81 = .ok (.iadd, 1) := by decide +kernel
theorem dX12_readsThing_82 : decode cX12_readsThing 82 = .ok (.aload_n 0, 1) := by decide +kernel
theorem dX12_readsThing_83 : decode cX12_readsThing 83 = .ok (.getfield 61, 3) := by decide +kernel
theorem dX12_readsThing_86 : decode cX12_readsThing 86 = .ok (.iconst 4, 1) := by decide +kernel
theorem dX12_readsThing_87 : decode cX12_readsThing 87 = .ok (.iaload, 1) := by decide +kernel
theorem dX12_readsThing_88 : decode cX12_readsThing 88 = .ok (.iastore, 1) := by decide +kernel
theorem dX12_readsThing_89 : decode cX12_readsThing 89 = .ok (.return_, 1) := by decide +kernel
theorem dX12_readsCoat_0 : decode cX12_readsCoat 0 = .ok (.aload_n 0, 1) := by decide +kernel
theorem dX12_readsCoat_1 : decode cX12_readsCoat 1 = .ok (.iconst 0, 1) := by decide +kernel
theorem dX12_readsCoat_2 : decode cX12_readsCoat 2 = .ok (.aload_n 0, 1) := by decide +kernel
theorem dX12_readsCoat_3 : decode cX12_readsCoat 3 = .ok (.getfield 61, 3) := by decide +kernel
theorem dX12_readsCoat_6 : decode cX12_readsCoat 6 = .ok (.iconst 4, 1) := by decide +kernel
theorem dX12_readsCoat_7 : decode cX12_readsCoat 7 = .ok (.iaload, 1) := by decide +kernel
theorem dX12_readsCoat_8 : decode cX12_readsCoat 8 = .ok (.iconst 1, 1) := by decide +kernel
theorem dX12_readsCoat_9 : decode cX12_readsCoat 9 = .ok (.isub, 1) := by decide +kernel
theorem dX12_readsCoat_10 : decode cX12_readsCoat 10 = .ok (.invokevirtual 303, 3) := by decide +kernel
theorem dX12_readsCoat_13 : decode cX12_readsCoat 13 = .ok (.istore_n 1, 1) := by decide +kernel
theorem dX12_readsCoat_14 : decode cX12_readsCoat 14 = .ok (.aload_n 0, 1) := by decide +kernel
theorem dX12_readsCoat_15 : decode cX12_readsCoat 15 = .ok (.iconst 0, 1) := by decide +kernel
theorem dX12_readsCoat_16 : decode cX12_readsCoat 16 = .ok (.aload_n 0, 1) := by decide +kernel
theorem dX12_readsCoat_17 : decode cX12_readsCoat 17 = .ok (.getfield 61, 3) := by decide +kernel
theorem dX12_readsCoat_20 : decode cX12_readsCoat 20 = .ok (.iconst 5, 1) := by decide +kernel
theorem dX12_readsCoat_21 : decode cX12_readsCoat 21 = .ok (.iaload, 1) := by decide +kernel
theorem dX12_readsCoat_22 : decode cX12_readsCoat 22 = .ok (.iconst 1, 1) := by decide +kernel
theorem dX12_readsCoat_23 : decode cX12_readsCoat 23 = .ok (.isub, 1) := by decide +kernel
theorem dX12_readsCoat_24 : decode cX12_readsCoat 24 = .ok (.invokevirtual 303, 3) := by decide +kernel
theorem dX12_readsCoat_27 : decode cX12_readsCoat 27 = .ok (.istore_n 2, 1) := by decide +kernel
theorem dX12_readsCoat_28 : decode cX12_readsCoat 28 = .ok (.aload_n 0, 1) := by decide +kernel
theorem dX12_readsCoat_29 : decode cX12_readsCoat 29 = .ok (.getfield 199, 3) := by decide +kernel
theorem dX12_readsCoat_32 : decode cX12_readsCoat 32 = .ok (.ifCond .le 4, 3) := by decide +kernel
theorem dX12_readsCoat_35 : decode cX12_readsCoat 35 = .ok (.return_, 1) := by decide +kernel
theorem dX12_readsCoat_36 : decode cX12_readsCoat 36 = .ok (.aload_n 0, 1) := by decide +kernel
theorem dX12_readsCoat_37 : decode cX12_readsCoat 37 = .ok (.getfield 82, 3) := by decide +kernel
theorem dX12_readsCoat_40 : decode cX12_readsCoat 40 = .ok (.iload_n 1, 1) := by decide +kernel
theorem dX12_readsCoat_41 : decode cX12_readsCoat 41 = .ok (.iaload, 1) := by decide +kernel
theorem dX12_readsCoat_42 : decode cX12_readsCoat 42 = .ok (.iconst 5, 1) := by decide +kernel
theorem dX12_readsCoat_43 : decode cX12_readsCoat 43 = .ok (.if_icmp .ne 48, 3) := by decide +kernel
theorem dX12_readsCoat_46 : decode cX12_readsCoat 46 = .ok (.iconst 1, 1) := by decide +kernel
theorem dX12_readsCoat_47 : decode cX12_readsCoat 47 = .ok (.istore_n 3, 1) := by decide +kernel
theorem dX12_readsCoat_48 : decode cX12_readsCoat 48 = .ok (.iload_n 3, 1) := by decide +kernel
theorem dX12_readsCoat_49 : decode cX12_readsCoat 49 = .ok (.iconst 5, 1) := by decide +kernel
theorem dX12_readsCoat_50 : decode cX12_readsCoat 50 = .ok (.if_icmp .ge 31, 3) := by decide +kernel
theorem dX12_readsCoat_53 : decode cX12_readsCoat 53 = .ok (.aload_n 0, 1) := by decide +kernel
theorem dX12_readsCoat_54 : decode cX12_readsCoat 54 = .ok (.getfield 85, 3) := by decide +kernel
theorem dX12_readsCoat_57 : decode cX12_readsCoat 57 = .ok (.iconst 5, 1) := by decide +kernel
theorem dX12_readsCoat_58 : decode cX12_readsCoat 58 = .ok (.iload_n 1, 1) := by decide +kernel
theorem dX12_readsCoat_59 : decode cX12_readsCoat 59 = .ok (.imul, 1) := by decide +kernel
theorem dX12_readsCoat_60 : decode cX12_readsCoat 60 = .ok (.iload_n 3, 1) := by decide +kernel
theorem dX12_readsCoat_61 : decode cX12_readsCoat 61 = .ok (.iadd, 1) := by decide +kernel
theorem dX12_readsCoat_62 : decode cX12_readsCoat 62 = .ok (.iconst 1, 1) := by decide +kernel
theorem dX12_readsCoat_63 : decode cX12_readsCoat 63 = .ok (.isub, 1) := by decide +kernel
theorem dX12_readsCoat_64 : decode cX12_readsCoat 64 = .ok (.aload_n 0, 1) := by decide +kernel
theorem dX12_readsCoat_65 : decode cX12_readsCoat 65 = .ok (.getfield 85, 3) := by decide +kernel
theorem dX12_readsCoat_68 : decode cX12_readsCoat 68 = .ok (.iconst 5, 1) := by decide +kernel
theorem dX12_readsCoat_69 : decode cX12_readsCoat 69 = .ok (.iload_n 1, 1) := by decide +kernel
theorem dX12_readsCoat_70 : decode cX12_readsCoat 70 = .ok (.imul, 1) := by decide +kernel
theorem dX12_readsCoat_71 : decode cX12_readsCoat 71 = .ok (.iload_n 3, 1) := by decide +kernel
theorem dX12_readsCoat_72 : decode cX12_readsCoat 72 = .ok (.iadd, 1) := by decide +kernel
theorem dX12_readsCoat_73 : decode cX12_readsCoat 73 = .ok (.iaload, 1) := by decide +kernel
theorem dX12_readsCoat_74 : decode cX12_readsCoat 74 = .ok (.iastore, 1) := by decide +kernel
theorem dX12_readsCoat_75 : decode cX12_readsCoat 75 = .ok (.iinc 3 1, 3) := by decide +kernel
theorem dX12_readsCoat_78 : decode cX12_readsCoat 78 = .ok (.goto (-30), 3) := by decide +kernel
theorem dX12_readsCoat_81 : decode cX12_readsCoat 81 = .ok (.aload_n 0, 1) := by decide +kernel
theorem dX12_readsCoat_82 : decode cX12_readsCoat 82 = .ok (.getfield 82, 3) := by decide +kernel
theorem dX12_readsCoat_85 : decode cX12_readsCoat 85 = .ok (.iload_n 1, 1) := by decide +kernel
theorem dX12_readsCoat_86 : decode cX12_readsCoat 86 = .ok (.dup2, 1) := by decide +kernel
theorem dX12_readsCoat_87 : decode cX12_readsCoat 87 = .ok (.iaload, 1) := by decide +kernel
theorem dX12_readsCoat_88 : decode cX12_readsCoat 88 = .ok (.iconst 1, 1) := by decide +kernel
theorem dX12_readsCoat_89 : decode cX12_readsCoat 89 = .ok (.isub, 1) := by decide +kernel
theorem dX12_readsCoat_90 : decode cX12_readsCoat 90 = .ok (.iastore, 1) := by decide +kernel
theorem dX12_readsCoat_91 : decode cX12_readsCoat 91 = .ok (.aload_n 0, 1) := by decide +kernel
theorem dX12_readsCoat_92 : decode cX12_readsCoat 92 = .ok (.getfield 85, 3) := by decide +kernel
theorem dX12_readsCoat_95 : decode cX12_readsCoat 95 = .ok (.iconst 5, 1) := by decide +kernel
theorem dX12_readsCoat_96 : decode cX12_readsCoat 96 = .ok (.iload_n 1, 1) := by decide +kernel
theorem dX12_readsCoat_97 : decode cX12_readsCoat 97 = .ok (.imul, 1) := by decide +kernel
theorem dX12_readsCoat_98 : decode cX12_readsCoat 98 = .ok (.aload_n 0, 1) := by decide +kernel
theorem dX12_readsCoat_99 : decode cX12_readsCoat 99 = .ok (.getfield 82, 3) := by decide +kernel
theorem dX12_readsCoat_102 : decode cX12_readsCoat 102 = .ok (.iload_n 1, 1) := by decide +kernel
theorem dX12_readsCoat_103 : decode cX12_readsCoat 103 = .ok (.iaload, 1) := by decide +kernel
theorem dX12_readsCoat_104 : decode cX12_readsCoat 104 = .ok (.iadd, 1) := by decide +kernel
theorem dX12_readsCoat_105 : decode cX12_readsCoat 105 = .ok (.iload_n 2, 1) := by decide +kernel
theorem dX12_readsCoat_106 : decode cX12_readsCoat 106 = .ok (.iastore, 1) := by decide +kernel
theorem dX12_readsCoat_107 : decode cX12_readsCoat 107 = .ok (.aload_n 0, 1) := by decide +kernel
theorem dX12_readsCoat_108 : decode cX12_readsCoat 108 = .ok (.getfield 82, 3) := by decide +kernel
theorem dX12_readsCoat_111 : decode cX12_readsCoat 111 = .ok (.iload_n 1, 1) := by decide +kernel
theorem dX12_readsCoat_112 : decode cX12_readsCoat 112 = .ok (.dup2, 1) := by decide +kernel
theorem dX12_readsCoat_113 : decode cX12_readsCoat 113 = .ok (.iaload, 1) := by decide +kernel
theorem dX12_readsCoat_114 : decode cX12_readsCoat 114 = .ok (.iconst 1, 1) := by decide +kernel
theorem dX12_readsCoat_115 : decode cX12_readsCoat 115 = .ok (.iadd, 1) := by decide +kernel
theorem dX12_readsCoat_116 : decode cX12_readsCoat 116 = .ok (.iastore, 1) := by decide +kernel
theorem dX12_readsCoat_117 : decode cX12_readsCoat 117 = .ok (.return_, 1) := by decide +kernel
theorem dX12_streetPart_0 : decode cX12_streetPart 0 = .ok (.iload_n 1, 1) := by decide +kernel
theorem dX12_streetPart_1 : decode cX12_streetPart 1 = .ok (.tableswitch 237 0 5 #[39, 81, 88, 134, 141, 182], 39) := by decide +kernel
theorem dX12_streetPart_40 : decode cX12_streetPart 40 = .ok (.aload_n 0, 1) := by decide +kernel
theorem dX12_streetPart_41 : decode cX12_streetPart 41 = .ok (.getfield 61, 3) := by decide +kernel
theorem dX12_streetPart_44 : decode cX12_streetPart 44 = .ok (.iconst 0, 1) := by decide +kernel
theorem dX12_streetPart_45 : decode cX12_streetPart 45 = .ok (.aload_n 0, 1) := by decide +kernel
theorem dX12_streetPart_46 : decode cX12_streetPart 46 = .ok (.iconst 1, 1) := by decide +kernel
theorem dX12_streetPart_47 : decode cX12_streetPart 47 = .ok (.bipush 9, 2) := by decide +kernel
theorem dX12_streetPart_49 : decode cX12_streetPart 49 = .ok (.invokevirtual 303, 3) := by decide +kernel
theorem dX12_streetPart_52 : decode cX12_streetPart 52 = .ok (.iastore, 1) := by decide +kernel
theorem dX12_streetPart_53 : decode cX12_streetPart 53 = .ok (.aload_n 0, 1) := by decide +kernel
theorem dX12_streetPart_54 : decode cX12_streetPart 54 = .ok (.getfield 61, 3) := by decide +kernel
theorem dX12_streetPart_57 : decode cX12_streetPart 57 = .ok (.iconst 1, 1) := by decide +kernel
theorem dX12_streetPart_58 : decode cX12_streetPart 58 = .ok (.aload_n 0, 1) := by decide +kernel
theorem dX12_streetPart_59 : decode cX12_streetPart 59 = .ok (.iconst 1, 1) := by decide +kernel
theorem dX12_streetPart_60 : decode cX12_streetPart 60 = .ok (.bipush 100, 2) := by decide +kernel
theorem dX12_streetPart_62 : decode cX12_streetPart 62 = .ok (.invokevirtual 303, 3) := by decide +kernel
theorem dX12_streetPart_65 : decode cX12_streetPart 65 = .ok (.iastore, 1) := by decide +kernel
theorem dX12_streetPart_66 : decode cX12_streetPart 66 = .ok (.aload_n 0, 1) := by decide +kernel
theorem dX12_streetPart_67 : decode cX12_streetPart 67 = .ok (.getfield 61, 3) := by decide +kernel
theorem dX12_streetPart_70 : decode cX12_streetPart 70 = .ok (.iconst 2, 1) := by decide +kernel
theorem dX12_streetPart_71 : decode cX12_streetPart 71 = .ok (.aload_n 0, 1) := by decide +kernel
theorem dX12_streetPart_72 : decode cX12_streetPart 72 = .ok (.iconst 0, 1) := by decide +kernel
theorem dX12_streetPart_73 : decode cX12_streetPart 73 = .ok (.bipush 9, 2) := by decide +kernel
theorem dX12_streetPart_75 : decode cX12_streetPart 75 = .ok (.invokevirtual 303, 3) := by decide +kernel
theorem dX12_streetPart_78 : decode cX12_streetPart 78 = .ok (.iastore, 1) := by decide +kernel
theorem dX12_streetPart_79 : decode cX12_streetPart 79 = .ok (.goto 167, 3) := by decide +kernel
theorem dX12_streetPart_82 : decode cX12_streetPart 82 = .ok (.aload_n 0, 1) := by decide +kernel
theorem dX12_streetPart_83 : decode cX12_streetPart 83 = .ok (.invokevirtual 307, 3) := by decide +kernel
theorem dX12_streetPart_86 : decode cX12_streetPart 86 = .ok (.goto 160, 3) := by decide +kernel
theorem dX12_streetPart_89 : decode cX12_streetPart 89 = .ok (.aload_n 0, 1) := by decide +kernel
theorem dX12_streetPart_90 : decode cX12_streetPart 90 = .ok (.getfield 61, 3) := by decide +kernel
theorem dX12_streetPart_93 : decode cX12_streetPart 93 = .ok (.iconst 5, 1) := by decide +kernel
theorem dX12_streetPart_94 : decode cX12_streetPart 94 = .ok (.iaload, 1) := by decide +kernel
theorem dX12_streetPart_95 : decode cX12_streetPart 95 = .ok (.istore_n 2, 1) := by decide +kernel
theorem dX12_streetPart_96 : decode cX12_streetPart 96 = .ok (.aload_n 0, 1) := by decide +kernel
theorem dX12_streetPart_97 : decode cX12_streetPart 97 = .ok (.getfield 70, 3) := by decide +kernel
theorem dX12_streetPart_100 : decode cX12_streetPart 100 = .ok (.iload_n 2, 1) := by decide +kernel
theorem dX12_streetPart_101 : decode cX12_streetPart 101 = .ok (.aload_n 0, 1) := by decide +kernel
theorem dX12_streetPart_102 : decode cX12_streetPart 102 = .ok (.iconst 0, 1) := by decide +kernel
theorem dX12_streetPart_103 : decode cX12_streetPart 103 = .ok (.bipush 8, 2) := by decide +kernel
theorem dX12_streetPart_105 : decode cX12_streetPart 105 = .ok (.invokevirtual 303, 3) := by decide +kernel
theorem dX12_streetPart_108 : decode cX12_streetPart 108 = .ok (.iastore, 1) := by decide +kernel
theorem dX12_streetPart_109 : decode cX12_streetPart 109 = .ok (.aload_n 0, 1) := by decide +kernel
theorem dX12_streetPart_110 : decode cX12_streetPart 110 = .ok (.getfield 73, 3) := by decide +kernel
theorem dX12_streetPart_113 : decode cX12_streetPart 113 = .ok (.iload_n 2, 1) := by decide +kernel
theorem dX12_streetPart_114 : decode cX12_streetPart 114 = .ok (.aload_n 0, 1) := by decide +kernel
theorem dX12_streetPart_115 : decode cX12_streetPart 115 = .ok (.iconst 0, 1) := by decide +kernel
theorem dX12_streetPart_116 : decode cX12_streetPart 116 = .ok (.bipush 99, 2) := by decide +kernel
theorem dX12_streetPart_118 : decode cX12_streetPart 118 = .ok (.invokevirtual 303, 3) := by decide +kernel
theorem dX12_streetPart_121 : decode cX12_streetPart 121 = .ok (.iastore, 1) := by decide +kernel
theorem dX12_streetPart_122 : decode cX12_streetPart 122 = .ok (.aload_n 0, 1) := by decide +kernel
theorem dX12_streetPart_123 : decode cX12_streetPart 123 = .ok (.getfield 61, 3) := by decide +kernel
theorem dX12_streetPart_126 : decode cX12_streetPart 126 = .ok (.iconst 5, 1) := by decide +kernel
theorem dX12_streetPart_127 : decode cX12_streetPart 127 = .ok (.dup2, 1) := by decide +kernel
theorem dX12_streetPart_128 : decode cX12_streetPart 128 = .ok (.iaload, 1) := by decide +kernel
theorem dX12_streetPart_129 : decode cX12_streetPart 129 = .ok (.iconst 1, 1) := by decide +kernel
theorem dX12_streetPart_130 : decode cX12_streetPart 130 = .ok (.iadd, 1) := by decide +kernel
theorem dX12_streetPart_131 : decode cX12_streetPart 131 = .ok (.iastore, 1) := by decide +kernel
theorem dX12_streetPart_132 : decode cX12_streetPart 132 = .ok (.goto 114, 3) := by decide +kernel
theorem dX12_streetPart_135 : decode cX12_streetPart 135 = .ok (.aload_n 0, 1) := by decide +kernel
theorem dX12_streetPart_136 : decode cX12_streetPart 136 = .ok (.invokevirtual 310, 3) := by decide +kernel
theorem dX12_streetPart_139 : decode cX12_streetPart 139 = .ok (.goto 107, 3) := by decide +kernel
theorem dX12_streetPart_142 : decode cX12_streetPart 142 = .ok (.aload_n 0, 1) := by decide +kernel
theorem dX12_streetPart_143 : decode cX12_streetPart 143 = .ok (.iconst 0, 1) := by decide +kernel
theorem dX12_streetPart_144 : decode cX12_streetPart 144 = .ok (.aload_n 0, 1) := by decide +kernel
theorem dX12_streetPart_145 : decode cX12_streetPart 145 = .ok (.getfield 61, 3) := by decide +kernel
theorem dX12_streetPart_148 : decode cX12_streetPart 148 = .ok (.iconst 3, 1) := by decide +kernel
theorem dX12_streetPart_149 : decode cX12_streetPart 149 = .ok (.iaload, 1) := by decide +kernel
theorem dX12_streetPart_150 : decode cX12_streetPart 150 = .ok (.iconst 1, 1) := by decide +kernel
theorem dX12_streetPart_151 : decode cX12_streetPart 151 = .ok (.isub, 1) := by decide +kernel
theorem dX12_streetPart_152 : decode cX12_streetPart 152 = .ok (.invokevirtual 303, 3) := by decide +kernel
theorem dX12_streetPart_155 : decode cX12_streetPart 155 = .ok (.istore_n 2, 1) := by decide +kernel
theorem dX12_streetPart_156 : decode cX12_streetPart 156 = .ok (.aload_n 0, 1) := by decide +kernel
theorem dX12_streetPart_157 : decode cX12_streetPart 157 = .ok (.getfield 61, 3) := by decide +kernel
theorem dX12_streetPart_160 : decode cX12_streetPart 160 = .ok (.bipush 8, 2) := by decide +kernel
theorem dX12_streetPart_162 : decode cX12_streetPart 162 = .ok (.dup2, 1) := by decide +kernel
theorem dX12_streetPart_163 : decode cX12_streetPart 163 = .ok (.iaload, 1) := by decide +kernel
theorem dX12_streetPart_164 : decode cX12_streetPart 164 = .ok (.aload_n 0, 1) := by decide +kernel
theorem dX12_streetPart_165 : decode cX12_streetPart 165 = .ok (.getfield 199, 3) := by decide +kernel
theorem dX12_streetPart_168 : decode cX12_streetPart 168 = .ok (.ifCond .ne 9, 3) := by decide +kernel
theorem dX12_streetPart_171 : decode cX12_streetPart 171 = .ok (.iconst 1, 1) := by decide +kernel
theorem dX12_streetPart_172 : decode cX12_streetPart 172 = .ok (.iload_n 2, 1) := by decide +kernel
theorem dX12_streetPart_173 : decode cX12_streetPart 173 = .ok (.ishl, 1) := by decide +kernel
theorem dX12_streetPart_174 : decode cX12_streetPart 174 = .ok (.goto 4, 3) := by decide +kernel
theorem dX12_streetPart_177 : decode cX12_streetPart 177 = .ok (.iconst 0, 1) := by decide +kernel
theorem dX12_streetPart_178 : decode cX12_streetPart 178 = .ok (.ior, 1) := by decide +kernel
theorem dX12_streetPart_179 : decode cX12_streetPart 179 = .ok (.iastore, 1) := by decide +kernel
theorem dX12_streetPart_180 : decode cX12_streetPart 180 = .ok (.goto 66, 3) := by decide +kernel
theorem dX12_streetPart_183 : decode cX12_streetPart 183 = .ok (.aload_n 0, 1) := by decide +kernel
theorem dX12_streetPart_184 : decode cX12_streetPart 184 = .ok (.getfield 61, 3) := by decide +kernel
theorem dX12_streetPart_187 : decode cX12_streetPart 187 = .ok (.bipush 7, 2) := by decide +kernel
theorem dX12_streetPart_189 : decode cX12_streetPart 189 = .ok (.iaload, 1) := by decide +kernel
theorem dX12_streetPart_190 : decode cX12_streetPart 190 = .ok (.istore_n 2, 1) := by decide +kernel
theorem dX12_streetPart_191 : decode cX12_streetPart 191 = .ok (.aload_n 0, 1) := by decide +kernel
theorem dX12_streetPart_192 : decode cX12_streetPart 192 = .ok (.getfield 76, 3) := by decide +kernel
theorem dX12_streetPart_195 : decode cX12_streetPart 195 = .ok (.iload_n 2, 1) := by decide +kernel
theorem dX12_streetPart_196 : decode cX12_streetPart 196 = .ok (.aload_n 0, 1) := by decide +kernel
theorem dX12_streetPart_197 : decode cX12_streetPart 197 = .ok (.iconst 0, 1) := by decide +kernel
theorem dX12_streetPart_198 : decode cX12_streetPart 198 = .ok (.sipush 199, 3) := by decide +kernel
theorem dX12_streetPart_201 : decode cX12_streetPart 201 = .ok (.invokevirtual 303, 3) := by decide +kernel
theorem dX12_streetPart_204 : decode cX12_streetPart 204 = .ok (.iastore, 1) := by decide +kernel
theorem dX12_streetPart_205 : decode cX12_streetPart 205 = .ok (.aload_n 0, 1) := by decide +kernel
theorem dX12_streetPart_206 : decode cX12_streetPart 206 = .ok (.getfield 79, 3) := by decide +kernel
theorem dX12_streetPart_209 : decode cX12_streetPart 209 = .ok (.iload_n 2, 1) := by decide +kernel
theorem dX12_streetPart_210 : decode cX12_streetPart 210 = .ok (.aload_n 0, 1) := by decide +kernel
theorem dX12_streetPart_211 : decode cX12_streetPart 211 = .ok (.aload_n 0, 1) := by decide +kernel
theorem dX12_streetPart_212 : decode cX12_streetPart 212 = .ok (.getfield 76, 3) := by decide +kernel
theorem dX12_streetPart_215 : decode cX12_streetPart 215 = .ok (.iload_n 2, 1) := by decide +kernel
theorem dX12_streetPart_216 : decode cX12_streetPart 216 = .ok (.iaload, 1) := by decide +kernel
theorem dX12_streetPart_217 : decode cX12_streetPart 217 = .ok (.sipush 199, 3) := by decide +kernel
theorem dX12_streetPart_220 : decode cX12_streetPart 220 = .ok (.invokevirtual 303, 3) := by decide +kernel
theorem dX12_streetPart_223 : decode cX12_streetPart 223 = .ok (.iastore, 1) := by decide +kernel
theorem dX12_streetPart_224 : decode cX12_streetPart 224 = .ok (.aload_n 0, 1) := by decide +kernel
theorem dX12_streetPart_225 : decode cX12_streetPart 225 = .ok (.getfield 61, 3) := by decide +kernel
theorem dX12_streetPart_228 : decode cX12_streetPart 228 = .ok (.bipush 7, 2) := by decide +kernel
theorem dX12_streetPart_230 : decode cX12_streetPart 230 = .ok (.dup2, 1) := by decide +kernel
theorem dX12_streetPart_231 : decode cX12_streetPart 231 = .ok (.iaload, 1) := by decide +kernel
theorem dX12_streetPart_232 : decode cX12_streetPart 232 = .ok (.iconst 1, 1) := by decide +kernel
theorem dX12_streetPart_233 : decode cX12_streetPart 233 = .ok (.iadd, 1) := by decide +kernel
theorem dX12_streetPart_234 : decode cX12_streetPart 234 = .ok (.iastore, 1) := by decide +kernel
theorem dX12_streetPart_235 : decode cX12_streetPart 235 = .ok (.goto 11, 3) := by decide +kernel
theorem dX12_streetPart_238 : decode cX12_streetPart 238 = .ok (.aload_n 0, 1) := by decide +kernel
theorem dX12_streetPart_239 : decode cX12_streetPart 239 = .ok (.getfield 61, 3) := by decide +kernel
theorem dX12_streetPart_242 : decode cX12_streetPart 242 = .ok (.bipush 6, 2) := by decide +kernel
theorem dX12_streetPart_244 : decode cX12_streetPart 244 = .ok (.iconst 1, 1) := by decide +kernel
theorem dX12_streetPart_245 : decode cX12_streetPart 245 = .ok (.iastore, 1) := by decide +kernel
theorem dX12_streetPart_246 : decode cX12_streetPart 246 = .ok (.return_, 1) := by decide +kernel
theorem dX12_isFull_0 : decode cX12_isFull 0 = .ok (.iload_n 2, 1) := by decide +kernel
theorem dX12_isFull_1 : decode cX12_isFull 1 = .ok (.bipush 40, 2) := by decide +kernel
theorem dX12_isFull_3 : decode cX12_isFull 3 = .ok (.if_icmp .eq 24, 3) := by decide +kernel
theorem dX12_isFull_6 : decode cX12_isFull 6 = .ok (.iload_n 1, 1) := by decide +kernel
theorem dX12_isFull_7 : decode cX12_isFull 7 = .ok (.ifCond .ne 7, 3) := by decide +kernel
theorem dX12_isFull_10 : decode cX12_isFull 10 = .ok (.iconst 1, 1) := by decide +kernel
theorem dX12_isFull_11 : decode cX12_isFull 11 = .ok (.goto 4, 3) := by decide +kernel
theorem dX12_isFull_14 : decode cX12_isFull 14 = .ok (.iconst 0, 1) := by decide +kernel
theorem dX12_isFull_15 : decode cX12_isFull 15 = .ok (.iload_n 2, 1) := by decide +kernel
theorem dX12_isFull_16 : decode cX12_isFull 16 = .ok (.ifCond .ne 7, 3) := by decide +kernel
theorem dX12_isFull_19 : decode cX12_isFull 19 = .ok (.iconst 1, 1) := by decide +kernel
theorem dX12_isFull_20 : decode cX12_isFull 20 = .ok (.goto 4, 3) := by decide +kernel
theorem dX12_isFull_23 : decode cX12_isFull 23 = .ok (.iconst 0, 1) := by decide +kernel
theorem dX12_isFull_24 : decode cX12_isFull 24 = .ok (.if_icmp .eq 5, 3) := by decide +kernel
theorem dX12_isFull_27 : decode cX12_isFull 27 = .ok (.iconst 1, 1) := by decide +kernel
theorem dX12_isFull_28 : decode cX12_isFull 28 = .ok (.ireturn, 1) := by decide +kernel
theorem dX12_isFull_29 : decode cX12_isFull 29 = .ok (.iload_n 1, 1) := by decide +kernel
theorem dX12_isFull_30 : decode cX12_isFull 30 = .ok (.tableswitch 104 1 6 #[38, 54, 104, 104, 70, 87], 38) := by decide +kernel
theorem dX12_isFull_68 : decode cX12_isFull 68 = .ok (.aload_n 0, 1) := by decide +kernel
theorem dX12_isFull_69 : decode cX12_isFull 69 = .ok (.getfield 61, 3) := by decide +kernel
theorem dX12_isFull_72 : decode cX12_isFull 72 = .ok (.iconst 3, 1) := by decide +kernel
theorem dX12_isFull_73 : decode cX12_isFull 73 = .ok (.iaload, 1) := by decide +kernel
theorem dX12_isFull_74 : decode cX12_isFull 74 = .ok (.iconst 4, 1) := by decide +kernel
theorem dX12_isFull_75 : decode cX12_isFull 75 = .ok (.if_icmp .ne 7, 3) := by decide +kernel
theorem dX12_isFull_78 : decode cX12_isFull 78 = .ok (.iconst 1, 1) := by decide +kernel
theorem dX12_isFull_79 : decode cX12_isFull 79 = .ok (.goto 4, 3) := by decide +kernel
theorem dX12_isFull_82 : decode cX12_isFull 82 = .ok (.iconst 0, 1) := by decide +kernel
theorem dX12_isFull_83 : decode cX12_isFull 83 = .ok (.ireturn, 1) := by decide +kernel
theorem dX12_isFull_84 : decode cX12_isFull 84 = .ok (.aload_n 0, 1) := by decide +kernel
theorem dX12_isFull_85 : decode cX12_isFull 85 = .ok (.getfield 61, 3) := by decide +kernel
theorem dX12_isFull_88 : decode cX12_isFull 88 = .ok (.iconst 5, 1) := by decide +kernel
theorem dX12_isFull_89 : decode cX12_isFull 89 = .ok (.iaload, 1) := by decide +kernel
theorem dX12_isFull_90 : decode cX12_isFull 90 = .ok (.iconst 4, 1) := by decide +kernel
theorem dX12_isFull_91 : decode cX12_isFull 91 = .ok (.if_icmp .ne 7, 3) := by decide +kernel
theorem dX12_isFull_94 : decode cX12_isFull 94 = .ok (.iconst 1, 1) := by decide +kernel
theorem dX12_isFull_95 : decode cX12_isFull 95 = .ok (.goto 4, 3) := by decide +kernel
theorem dX12_isFull_98 : decode cX12_isFull 98 = .ok (.iconst 0, 1) := by decide +kernel
theorem dX12_isFull_99 : decode cX12_isFull 99 = .ok (.ireturn, 1) := by decide +kernel
theorem dX12_isFull_100 : decode cX12_isFull 100 = .ok (.aload_n 0, 1) := by decide +kernel
theorem dX12_isFull_101 : decode cX12_isFull 101 = .ok (.getfield 61, 3) := by decide +kernel
theorem dX12_isFull_104 : decode cX12_isFull 104 = .ok (.bipush 7, 2) := by decide +kernel
theorem dX12_isFull_106 : decode cX12_isFull 106 = .ok (.iaload, 1) := by decide +kernel
theorem dX12_isFull_107 : decode cX12_isFull 107 = .ok (.iconst 5, 1) := by decide +kernel
theorem dX12_isFull_108 : decode cX12_isFull 108 = .ok (.if_icmp .ne 7, 3) := by decide +kernel
theorem dX12_isFull_111 : decode cX12_isFull 111 = .ok (.iconst 1, 1) := by decide +kernel
theorem dX12_isFull_112 : decode cX12_isFull 112 = .ok (.goto 4, 3) := by decide +kernel
theorem dX12_isFull_115 : decode cX12_isFull 115 = .ok (.iconst 0, 1) := by decide +kernel
theorem dX12_isFull_116 : decode cX12_isFull 116 = .ok (.ireturn, 1) := by decide +kernel
theorem dX12_isFull_117 : decode cX12_isFull 117 = .ok (.aload_n 0, 1) := by decide +kernel
theorem dX12_isFull_118 : decode cX12_isFull 118 = .ok (.getfield 61, 3) := by decide +kernel
theorem dX12_isFull_121 : decode cX12_isFull 121 = .ok (.bipush 6, 2) := by decide +kernel
theorem dX12_isFull_123 : decode cX12_isFull 123 = .ok (.iaload, 1) := by decide +kernel
theorem dX12_isFull_124 : decode cX12_isFull 124 = .ok (.iconst 1, 1) := by decide +kernel
theorem dX12_isFull_125 : decode cX12_isFull 125 = .ok (.if_icmp .ne 7, 3) := by decide +kernel
theorem dX12_isFull_128 : decode cX12_isFull 128 = .ok (.iconst 1, 1) := by decide +kernel
theorem dX12_isFull_129 : decode cX12_isFull 129 = .ok (.goto 4, 3) := by decide +kernel
theorem dX12_isFull_132 : decode cX12_isFull 132 = .ok (.iconst 0, 1) := by decide +kernel
theorem dX12_isFull_133 : decode cX12_isFull 133 = .ok (.ireturn, 1) := by decide +kernel
theorem dX12_isFull_134 : decode cX12_isFull 134 = .ok (.iconst 0, 1) := by decide +kernel
theorem dX12_isFull_135 : decode cX12_isFull 135 = .ok (.ireturn, 1) := by decide +kernel
theorem dX12_streetClause_0 : decode cX12_streetClause 0 = .ok (.aload_n 0, 1) := by decide +kernel
theorem dX12_streetClause_1 : decode cX12_streetClause 1 = .ok (.invokevirtual 222, 3) := by decide +kernel
theorem dX12_streetClause_4 : decode cX12_streetClause 4 = .ok (.aload_n 0, 1) := by decide +kernel
theorem dX12_streetClause_5 : decode cX12_streetClause 5 = .ok (.getfield 202, 3) := by decide +kernel
theorem dX12_streetClause_8 : decode cX12_streetClause 8 = .ok (.istore_n 2, 1) := by decide +kernel
theorem dX12_streetClause_9 : decode cX12_streetClause 9 = .ok (.iconst 0, 1) := by decide +kernel
theorem dX12_streetClause_10 : decode cX12_streetClause 10 = .ok (.istore_n 3, 1) := by decide +kernel
theorem dX12_streetClause_11 : decode cX12_streetClause 11 = .ok (.iload_n 3, 1) := by decide +kernel
theorem dX12_streetClause_12 : decode cX12_streetClause 12 = .ok (.bipush 7, 2) := by decide +kernel
theorem dX12_streetClause_14 : decode cX12_streetClause 14 = .ok (.if_icmp .ge 20, 3) := by decide +kernel
theorem dX12_streetClause_17 : decode cX12_streetClause 17 = .ok (.aload_n 0, 1) := by decide +kernel
theorem dX12_streetClause_18 : decode cX12_streetClause 18 = .ok (.iload_n 3, 1) := by decide +kernel
theorem dX12_streetClause_19 : decode cX12_streetClause 19 = .ok (.invokestatic 313, 3) := by decide +kernel
theorem dX12_streetClause_22 : decode cX12_streetClause 22 = .ok (.invokevirtual 225, 3) := by decide +kernel
theorem dX12_streetClause_25 : decode cX12_streetClause 25 = .ok (.ifCond .ne 9, 3) := by decide +kernel
theorem dX12_streetClause_28 : decode cX12_streetClause 28 = .ok (.iinc 3 1, 3) := by decide +kernel
theorem dX12_streetClause_31 : decode cX12_streetClause 31 = .ok (.goto (-20), 3) := by decide +kernel
theorem dX12_streetClause_34 : decode cX12_streetClause 34 = .ok (.iload_n 3, 1) := by decide +kernel
theorem dX12_streetClause_35 : decode cX12_streetClause 35 = .ok (.bipush 7, 2) := by decide +kernel
theorem dX12_streetClause_37 : decode cX12_streetClause 37 = .ok (.if_icmp .ne 10, 3) := by decide +kernel
theorem dX12_streetClause_40 : decode cX12_streetClause 40 = .ok (.aload_n 0, 1) := by decide +kernel
theorem dX12_streetClause_41 : decode cX12_streetClause 41 = .ok (.iconst 0, 1) := by decide +kernel
theorem dX12_streetClause_42 : decode cX12_streetClause 42 = .ok (.iload_n 2, 1) := by decide +kernel
theorem dX12_streetClause_43 : decode cX12_streetClause 43 = .ok (.invokevirtual 238, 3) := by decide +kernel
theorem dX12_streetClause_46 : decode cX12_streetClause 46 = .ok (.return_, 1) := by decide +kernel
theorem dX12_streetClause_47 : decode cX12_streetClause 47 = .ok (.aload_n 0, 1) := by decide +kernel
theorem dX12_streetClause_48 : decode cX12_streetClause 48 = .ok (.iload_n 3, 1) := by decide +kernel
theorem dX12_streetClause_49 : decode cX12_streetClause 49 = .ok (.iload_n 1, 1) := by decide +kernel
theorem dX12_streetClause_50 : decode cX12_streetClause 50 = .ok (.invokevirtual 316, 3) := by decide +kernel
theorem dX12_streetClause_53 : decode cX12_streetClause 53 = .ok (.ifCond .eq 10, 3) := by decide +kernel
theorem dX12_streetClause_56 : decode cX12_streetClause 56 = .ok (.aload_n 0, 1) := by decide +kernel
theorem dX12_streetClause_57 : decode cX12_streetClause 57 = .ok (.iconst 4, 1) := by decide +kernel
theorem dX12_streetClause_58 : decode cX12_streetClause 58 = .ok (.iload_n 2, 1) := by decide +kernel
theorem dX12_streetClause_59 : decode cX12_streetClause 59 = .ok (.invokevirtual 238, 3) := by decide +kernel
theorem dX12_streetClause_62 : decode cX12_streetClause 62 = .ok (.return_, 1) := by decide +kernel
theorem dX12_streetClause_63 : decode cX12_streetClause 63 = .ok (.aload_n 0, 1) := by decide +kernel
theorem dX12_streetClause_64 : decode cX12_streetClause 64 = .ok (.dup, 1) := by decide +kernel
theorem dX12_streetClause_65 : decode cX12_streetClause 65 = .ok (.getfield 202, 3) := by decide +kernel
theorem dX12_streetClause_68 : decode cX12_streetClause 68 = .ok (.iload_n 3, 1) := by decide +kernel
theorem dX12_streetClause_69 : decode cX12_streetClause 69 = .ok (.invokestatic 313, 3) := by decide +kernel
theorem dX12_streetClause_72 : decode cX12_streetClause 72 = .ok (.invokevirtual 213, 3) := by decide +kernel
theorem dX12_streetClause_75 : decode cX12_streetClause 75 = .ok (.iadd, 1) := by decide +kernel
theorem dX12_streetClause_76 : decode cX12_streetClause 76 = .ok (.putfield 202, 3) := by decide +kernel
theorem dX12_streetClause_79 : decode cX12_streetClause 79 = .ok (.aload_n 0, 1) := by decide +kernel
theorem dX12_streetClause_80 : decode cX12_streetClause 80 = .ok (.iload_n 3, 1) := by decide +kernel
theorem dX12_streetClause_81 : decode cX12_streetClause 81 = .ok (.invokevirtual 320, 3) := by decide +kernel
theorem dX12_streetClause_84 : decode cX12_streetClause 84 = .ok (.return_, 1) := by decide +kernel
theorem dX12_copies_0 : decode cX12_copies 0 = .ok (.iconst 0, 1) := by decide +kernel
theorem dX12_copies_1 : decode cX12_copies 1 = .ok (.istore_n 2, 1) := by decide +kernel
theorem dX12_copies_2 : decode cX12_copies 2 = .ok (.iload_n 2, 1) := by decide +kernel
theorem dX12_copies_3 : decode cX12_copies 3 = .ok (.aload_n 0, 1) := by decide +kernel
theorem dX12_copies_4 : decode cX12_copies 4 = .ok (.arraylength, 1) := by decide +kernel
theorem dX12_copies_5 : decode cX12_copies 5 = .ok (.if_icmp .ge 15, 3) := by decide +kernel
theorem dX12_copies_8 : decode cX12_copies 8 = .ok (.aload_n 1, 1) := by decide +kernel
theorem dX12_copies_9 : decode cX12_copies 9 = .ok (.iload_n 2, 1) := by decide +kernel
theorem dX12_copies_10 : decode cX12_copies 10 = .ok (.aload_n 0, 1) := by decide +kernel
theorem dX12_copies_11 : decode cX12_copies 11 = .ok (.iload_n 2, 1) := by decide +kernel
theorem dX12_copies_12 : decode cX12_copies 12 = .ok (.iaload, 1) := by decide +kernel
theorem dX12_copies_13 : decode cX12_copies 13 = .ok (.iastore, 1) := by decide +kernel
theorem dX12_copies_14 : decode cX12_copies 14 = .ok (.iinc 2 1, 3) := by decide +kernel
theorem dX12_copies_17 : decode cX12_copies 17 = .ok (.goto (-15), 3) := by decide +kernel
theorem dX12_copies_20 : decode cX12_copies 20 = .ok (.return_, 1) := by decide +kernel
theorem dX12_goesOn_0 : decode cX12_goesOn 0 = .ok (.aload_n 0, 1) := by decide +kernel
theorem dX12_goesOn_1 : decode cX12_goesOn 1 = .ok (.invokevirtual 222, 3) := by decide +kernel
theorem dX12_goesOn_4 : decode cX12_goesOn 4 = .ok (.aload_n 0, 1) := by decide +kernel
theorem dX12_goesOn_5 : decode cX12_goesOn 5 = .ok (.getfield 199, 3) := by decide +kernel
theorem dX12_goesOn_8 : decode cX12_goesOn 8 = .ok (.ifCond .ne 32, 3) := by decide +kernel
theorem dX12_goesOn_11 : decode cX12_goesOn 11 = .ok (.aload_n 0, 1) := by decide +kernel
theorem dX12_goesOn_12 : decode cX12_goesOn 12 = .ok (.getfield 202, 3) := by decide +kernel
theorem dX12_goesOn_15 : decode cX12_goesOn 15 = .ok (.aload_n 0, 1) := by decide +kernel
theorem dX12_goesOn_16 : decode cX12_goesOn 16 = .ok (.getfield 168, 3) := by decide +kernel
theorem dX12_goesOn_19 : decode cX12_goesOn 19 = .ok (.if_icmp .ge 21, 3) := by decide +kernel
theorem dX12_goesOn_22 : decode cX12_goesOn 22 = .ok (.aload_n 0, 1) := by decide +kernel
theorem dX12_goesOn_23 : decode cX12_goesOn 23 = .ok (.invokevirtual 205, 3) := by decide +kernel
theorem dX12_goesOn_26 : decode cX12_goesOn 26 = .ok (.bipush 59, 2) := by decide +kernel
theorem dX12_goesOn_28 : decode cX12_goesOn 28 = .ok (.if_icmp .eq 12, 3) := by decide +kernel
theorem dX12_goesOn_31 : decode cX12_goesOn 31 = .ok (.aload_n 0, 1) := by decide +kernel
theorem dX12_goesOn_32 : decode cX12_goesOn 32 = .ok (.iconst 0, 1) := by decide +kernel
theorem dX12_goesOn_33 : decode cX12_goesOn 33 = .ok (.aload_n 0, 1) := by decide +kernel
theorem dX12_goesOn_34 : decode cX12_goesOn 34 = .ok (.getfield 202, 3) := by decide +kernel
theorem dX12_goesOn_37 : decode cX12_goesOn 37 = .ok (.invokevirtual 238, 3) := by decide +kernel
theorem dX12_goesOn_40 : decode cX12_goesOn 40 = .ok (.aload_n 0, 1) := by decide +kernel
theorem dX12_goesOn_41 : decode cX12_goesOn 41 = .ok (.getfield 199, 3) := by decide +kernel
theorem dX12_goesOn_44 : decode cX12_goesOn 44 = .ok (.ifCond .ne 18, 3) := by decide +kernel
theorem dX12_goesOn_47 : decode cX12_goesOn 47 = .ok (.aload_n 0, 1) := by decide +kernel
theorem dX12_goesOn_48 : decode cX12_goesOn 48 = .ok (.getfield 202, 3) := by decide +kernel
theorem dX12_goesOn_51 : decode cX12_goesOn 51 = .ok (.aload_n 0, 1) := by decide +kernel
theorem dX12_goesOn_52 : decode cX12_goesOn 52 = .ok (.getfield 168, 3) := by decide +kernel
theorem dX12_goesOn_55 : decode cX12_goesOn 55 = .ok (.if_icmp .ge 7, 3) := by decide +kernel
theorem dX12_goesOn_58 : decode cX12_goesOn 58 = .ok (.iconst 1, 1) := by decide +kernel
theorem dX12_goesOn_59 : decode cX12_goesOn 59 = .ok (.goto 4, 3) := by decide +kernel
theorem dX12_goesOn_62 : decode cX12_goesOn 62 = .ok (.iconst 0, 1) := by decide +kernel
theorem dX12_goesOn_63 : decode cX12_goesOn 63 = .ok (.istore_n 1, 1) := by decide +kernel
theorem dX12_goesOn_64 : decode cX12_goesOn 64 = .ok (.aload_n 0, 1) := by decide +kernel
theorem dX12_goesOn_65 : decode cX12_goesOn 65 = .ok (.dup, 1) := by decide +kernel
theorem dX12_goesOn_66 : decode cX12_goesOn 66 = .ok (.getfield 202, 3) := by decide +kernel
theorem dX12_goesOn_69 : decode cX12_goesOn 69 = .ok (.iconst 1, 1) := by decide +kernel
theorem dX12_goesOn_70 : decode cX12_goesOn 70 = .ok (.iadd, 1) := by decide +kernel
theorem dX12_goesOn_71 : decode cX12_goesOn 71 = .ok (.putfield 202, 3) := by decide +kernel
theorem dX12_goesOn_74 : decode cX12_goesOn 74 = .ok (.iload_n 1, 1) := by decide +kernel
theorem dX12_goesOn_75 : decode cX12_goesOn 75 = .ok (.ireturn, 1) := by decide +kernel
theorem dX12_starts_0 : decode cX12_starts 0 = .ok (.aload_n 0, 1) := by decide +kernel
theorem dX12_starts_1 : decode cX12_starts 1 = .ok (.iconst 0, 1) := by decide +kernel
theorem dX12_starts_2 : decode cX12_starts 2 = .ok (.putfield 202, 3) := by decide +kernel
theorem dX12_starts_5 : decode cX12_starts 5 = .ok (.aload_n 0, 1) := by decide +kernel
theorem dX12_starts_6 : decode cX12_starts 6 = .ok (.iconst 0, 1) := by decide +kernel
theorem dX12_starts_7 : decode cX12_starts 7 = .ok (.putfield 199, 3) := by decide +kernel
theorem dX12_starts_10 : decode cX12_starts 10 = .ok (.aload_n 0, 1) := by decide +kernel
theorem dX12_starts_11 : decode cX12_starts 11 = .ok (.iconst 0, 1) := by decide +kernel
theorem dX12_starts_12 : decode cX12_starts 12 = .ok (.putfield 232, 3) := by decide +kernel
theorem dX12_starts_15 : decode cX12_starts 15 = .ok (.aload_n 0, 1) := by decide +kernel
theorem dX12_starts_16 : decode cX12_starts 16 = .ok (.iconst 0, 1) := by decide +kernel
theorem dX12_starts_17 : decode cX12_starts 17 = .ok (.putfield 272, 3) := by decide +kernel
theorem dX12_starts_20 : decode cX12_starts 20 = .ok (.aload_n 0, 1) := by decide +kernel
theorem dX12_starts_21 : decode cX12_starts 21 = .ok (.iconst 0, 1) := by decide +kernel
theorem dX12_starts_22 : decode cX12_starts 22 = .ok (.putfield 235, 3) := by decide +kernel
theorem dX12_starts_25 : decode cX12_starts 25 = .ok (.return_, 1) := by decide +kernel
theorem dX12_readsAll_0 : decode cX12_readsAll 0 = .ok (.aload_n 0, 1) := by decide +kernel
theorem dX12_readsAll_1 : decode cX12_readsAll 1 = .ok (.invokevirtual 323, 3) := by decide +kernel
theorem dX12_readsAll_4 : decode cX12_readsAll 4 = .ok (.iconst 0, 1) := by decide +kernel
theorem dX12_readsAll_5 : decode cX12_readsAll 5 = .ok (.istore_n 1, 1) := by decide +kernel
theorem dX12_readsAll_6 : decode cX12_readsAll 6 = .ok (.iload_n 1, 1) := by decide +kernel
theorem dX12_readsAll_7 : decode cX12_readsAll 7 = .ok (.bipush 9, 2) := by decide +kernel
theorem dX12_readsAll_9 : decode cX12_readsAll 9 = .ok (.if_icmp .ge 16, 3) := by decide +kernel
theorem dX12_readsAll_12 : decode cX12_readsAll 12 = .ok (.aload_n 0, 1) := by decide +kernel
theorem dX12_readsAll_13 : decode cX12_readsAll 13 = .ok (.getfield 61, 3) := by decide +kernel
theorem dX12_readsAll_16 : decode cX12_readsAll 16 = .ok (.iload_n 1, 1) := by decide +kernel
theorem dX12_readsAll_17 : decode cX12_readsAll 17 = .ok (.iconst 0, 1) := by decide +kernel
theorem dX12_readsAll_18 : decode cX12_readsAll 18 = .ok (.iastore, 1) := by decide +kernel
theorem dX12_readsAll_19 : decode cX12_readsAll 19 = .ok (.iinc 1 1, 3) := by decide +kernel
theorem dX12_readsAll_22 : decode cX12_readsAll 22 = .ok (.goto (-16), 3) := by decide +kernel
theorem dX12_readsAll_25 : decode cX12_readsAll 25 = .ok (.iconst 0, 1) := by decide +kernel
theorem dX12_readsAll_26 : decode cX12_readsAll 26 = .ok (.istore_n 1, 1) := by decide +kernel
theorem dX12_readsAll_27 : decode cX12_readsAll 27 = .ok (.iload_n 1, 1) := by decide +kernel
theorem dX12_readsAll_28 : decode cX12_readsAll 28 = .ok (.bipush 16, 2) := by decide +kernel
theorem dX12_readsAll_30 : decode cX12_readsAll 30 = .ok (.if_icmp .ge 16, 3) := by decide +kernel
theorem dX12_readsAll_33 : decode cX12_readsAll 33 = .ok (.aload_n 0, 1) := by decide +kernel
theorem dX12_readsAll_34 : decode cX12_readsAll 34 = .ok (.getfield 82, 3) := by decide +kernel
theorem dX12_readsAll_37 : decode cX12_readsAll 37 = .ok (.iload_n 1, 1) := by decide +kernel
theorem dX12_readsAll_38 : decode cX12_readsAll 38 = .ok (.iconst 0, 1) := by decide +kernel
theorem dX12_readsAll_39 : decode cX12_readsAll 39 = .ok (.iastore, 1) := by decide +kernel
theorem dX12_readsAll_40 : decode cX12_readsAll 40 = .ok (.iinc 1 1, 3) := by decide +kernel
theorem dX12_readsAll_43 : decode cX12_readsAll 43 = .ok (.goto (-16), 3) := by decide +kernel
theorem dX12_readsAll_46 : decode cX12_readsAll 46 = .ok (.iconst 0, 1) := by decide +kernel
theorem dX12_readsAll_47 : decode cX12_readsAll 47 = .ok (.istore_n 1, 1) := by decide +kernel
theorem dX12_readsAll_48 : decode cX12_readsAll 48 = .ok (.iconst 1, 1) := by decide +kernel
theorem dX12_readsAll_49 : decode cX12_readsAll 49 = .ok (.istore_n 2, 1) := by decide +kernel
theorem dX12_readsAll_50 : decode cX12_readsAll 50 = .ok (.iload_n 2, 1) := by decide +kernel
theorem dX12_readsAll_51 : decode cX12_readsAll 51 = .ok (.ifCond .eq 19, 3) := by decide +kernel
theorem dX12_readsAll_54 : decode cX12_readsAll 54 = .ok (.aload_n 0, 1) := by decide +kernel
theorem dX12_readsAll_55 : decode cX12_readsAll 55 = .ok (.iload_n 1, 1) := by decide +kernel
theorem dX12_readsAll_56 : decode cX12_readsAll 56 = .ok (.invokevirtual 326, 3) := by decide +kernel
theorem dX12_readsAll_59 : decode cX12_readsAll 59 = .ok (.iinc 1 1, 3) := by decide +kernel
theorem dX12_readsAll_62 : decode cX12_readsAll 62 = .ok (.aload_n 0, 1) := by decide +kernel
theorem dX12_readsAll_63 : decode cX12_readsAll 63 = .ok (.invokevirtual 329, 3) := by decide +kernel
theorem dX12_readsAll_66 : decode cX12_readsAll 66 = .ok (.istore_n 2, 1) := by decide +kernel
theorem dX12_readsAll_67 : decode cX12_readsAll 67 = .ok (.goto (-17), 3) := by decide +kernel
theorem dX12_readsAll_70 : decode cX12_readsAll 70 = .ok (.aload_n 0, 1) := by decide +kernel
theorem dX12_readsAll_71 : decode cX12_readsAll 71 = .ok (.iconst 0, 1) := by decide +kernel
theorem dX12_readsAll_72 : decode cX12_readsAll 72 = .ok (.putfield 168, 3) := by decide +kernel
theorem dX12_readsAll_75 : decode cX12_readsAll 75 = .ok (.return_, 1) := by decide +kernel
theorem dX12_begins_0 : decode cX12_begins 0 = .ok (.aload_n 0, 1) := by decide +kernel
theorem dX12_begins_1 : decode cX12_begins 1 = .ok (.getfield 49, 3) := by decide +kernel
theorem dX12_begins_4 : decode cX12_begins 4 = .ok (.aload_n 0, 1) := by decide +kernel
theorem dX12_begins_5 : decode cX12_begins 5 = .ok (.getfield 31, 3) := by decide +kernel
theorem dX12_begins_8 : decode cX12_begins 8 = .ok (.invokestatic 332, 3) := by decide +kernel
theorem dX12_begins_11 : decode cX12_begins 11 = .ok (.aload_n 0, 1) := by decide +kernel
theorem dX12_begins_12 : decode cX12_begins 12 = .ok (.getfield 52, 3) := by decide +kernel
theorem dX12_begins_15 : decode cX12_begins 15 = .ok (.aload_n 0, 1) := by decide +kernel
theorem dX12_begins_16 : decode cX12_begins 16 = .ok (.getfield 34, 3) := by decide +kernel
theorem dX12_begins_19 : decode cX12_begins 19 = .ok (.invokestatic 332, 3) := by decide +kernel
theorem dX12_begins_22 : decode cX12_begins 22 = .ok (.aload_n 0, 1) := by decide +kernel
theorem dX12_begins_23 : decode cX12_begins 23 = .ok (.getfield 55, 3) := by decide +kernel
theorem dX12_begins_26 : decode cX12_begins 26 = .ok (.aload_n 0, 1) := by decide +kernel
theorem dX12_begins_27 : decode cX12_begins 27 = .ok (.getfield 22, 3) := by decide +kernel
theorem dX12_begins_30 : decode cX12_begins 30 = .ok (.invokestatic 332, 3) := by decide +kernel
theorem dX12_begins_33 : decode cX12_begins 33 = .ok (.iconst 0, 1) := by decide +kernel
theorem dX12_begins_34 : decode cX12_begins 34 = .ok (.istore_n 1, 1) := by decide +kernel
theorem dX12_begins_35 : decode cX12_begins 35 = .ok (.iload_n 1, 1) := by decide +kernel
theorem dX12_begins_36 : decode cX12_begins 36 = .ok (.bipush 80, 2) := by decide +kernel
theorem dX12_begins_38 : decode cX12_begins 38 = .ok (.if_icmp .ge 16, 3) := by decide +kernel
theorem dX12_begins_41 : decode cX12_begins 41 = .ok (.aload_n 0, 1) := by decide +kernel
theorem dX12_begins_42 : decode cX12_begins 42 = .ok (.getfield 37, 3) := by decide +kernel
theorem dX12_begins_45 : decode cX12_begins 45 = .ok (.iload_n 1, 1) := by decide +kernel
theorem dX12_begins_46 : decode cX12_begins 46 = .ok (.iconst (-1), 1) := by decide +kernel
theorem dX12_begins_47 : decode cX12_begins 47 = .ok (.iastore, 1) := by decide +kernel
theorem dX12_begins_48 : decode cX12_begins 48 = .ok (.iinc 1 1, 3) := by decide +kernel
theorem dX12_begins_51 : decode cX12_begins 51 = .ok (.goto (-16), 3) := by decide +kernel
theorem dX12_begins_54 : decode cX12_begins 54 = .ok (.aload_n 0, 1) := by decide +kernel
theorem dX12_begins_55 : decode cX12_begins 55 = .ok (.getfield 9, 3) := by decide +kernel
theorem dX12_begins_58 : decode cX12_begins 58 = .ok (.bipush 8, 2) := by decide +kernel
theorem dX12_begins_60 : decode cX12_begins 60 = .ok (.aload_n 0, 1) := by decide +kernel
theorem dX12_begins_61 : decode cX12_begins 61 = .ok (.getfield 58, 3) := by decide +kernel
theorem dX12_begins_64 : decode cX12_begins 64 = .ok (.iconst 0, 1) := by decide +kernel
theorem dX12_begins_65 : decode cX12_begins 65 = .ok (.iaload, 1) := by decide +kernel
theorem dX12_begins_66 : decode cX12_begins 66 = .ok (.iastore, 1) := by decide +kernel
theorem dX12_begins_67 : decode cX12_begins 67 = .ok (.aload_n 0, 1) := by decide +kernel
theorem dX12_begins_68 : decode cX12_begins 68 = .ok (.getfield 9, 3) := by decide +kernel
theorem dX12_begins_71 : decode cX12_begins 71 = .ok (.bipush 9, 2) := by decide +kernel
theorem dX12_begins_73 : decode cX12_begins 73 = .ok (.iconst 0, 1) := by decide +kernel
theorem dX12_begins_74 : decode cX12_begins 74 = .ok (.iastore, 1) := by decide +kernel
theorem dX12_begins_75 : decode cX12_begins 75 = .ok (.iconst 0, 1) := by decide +kernel
theorem dX12_begins_76 : decode cX12_begins 76 = .ok (.istore_n 1, 1) := by decide +kernel
theorem dX12_begins_77 : decode cX12_begins 77 = .ok (.iload_n 1, 1) := by decide +kernel
theorem dX12_begins_78 : decode cX12_begins 78 = .ok (.aload_n 0, 1) := by decide +kernel
theorem dX12_begins_79 : decode cX12_begins 79 = .ok (.getfield 9, 3) := by decide +kernel
theorem dX12_begins_82 : decode cX12_begins 82 = .ok (.iconst 3, 1) := by decide +kernel
theorem dX12_begins_83 : decode cX12_begins 83 = .ok (.iaload, 1) := by decide +kernel
theorem dX12_begins_84 : decode cX12_begins 84 = .ok (.if_icmp .ge 23, 3) := by decide +kernel
theorem dX12_begins_87 : decode cX12_begins 87 = .ok (.aload_n 0, 1) := by decide +kernel
theorem dX12_begins_88 : decode cX12_begins 88 = .ok (.iload_n 1, 1) := by decide +kernel
theorem dX12_begins_89 : decode cX12_begins 89 = .ok (.invokevirtual 336, 3) := by decide +kernel
theorem dX12_begins_92 : decode cX12_begins 92 = .ok (.ifCond .eq 9, 3) := by decide +kernel
theorem dX12_begins_95 : decode cX12_begins 95 = .ok (.aload_n 0, 1) := by decide +kernel
theorem dX12_begins_96 : decode cX12_begins 96 = .ok (.iload_n 1, 1) := by decide +kernel
theorem dX12_begins_97 : decode cX12_begins 97 = .ok (.invokevirtual 340, 3) := by decide +kernel
theorem dX12_begins_100 : decode cX12_begins 100 = .ok (.pop, 1) := by decide +kernel
theorem dX12_begins_101 : decode cX12_begins 101 = .ok (.iinc 1 1, 3) := by decide +kernel
theorem dX12_begins_104 : decode cX12_begins 104 = .ok (.goto (-27), 3) := by decide +kernel
theorem dX12_begins_107 : decode cX12_begins 107 = .ok (.return_, 1) := by decide +kernel
theorem dX12_street_0 : decode cX12_street 0 = .ok (.aload_n 0, 1) := by decide +kernel
theorem dX12_street_1 : decode cX12_street 1 = .ok (.invokevirtual 343, 3) := by decide +kernel
theorem dX12_street_4 : decode cX12_street 4 = .ok (.aload_n 0, 1) := by decide +kernel
theorem dX12_street_5 : decode cX12_street 5 = .ok (.getfield 199, 3) := by decide +kernel
theorem dX12_street_8 : decode cX12_street 8 = .ok (.ifCond .le 11, 3) := by decide +kernel
theorem dX12_street_11 : decode cX12_street 11 = .ok (.bipush (-2), 2) := by decide +kernel
theorem dX12_street_13 : decode cX12_street 13 = .ok (.aload_n 0, 1) := by decide +kernel
theorem dX12_street_14 : decode cX12_street 14 = .ok (.getfield 199, 3) := by decide +kernel
theorem dX12_street_17 : decode cX12_street 17 = .ok (.isub, 1) := by decide +kernel
theorem dX12_street_18 : decode cX12_street 18 = .ok (.ireturn, 1) := by decide +kernel
theorem dX12_street_19 : decode cX12_street 19 = .ok (.iconst 0, 1) := by decide +kernel
theorem dX12_street_20 : decode cX12_street 20 = .ok (.istore_n 1, 1) := by decide +kernel
theorem dX12_street_21 : decode cX12_street 21 = .ok (.iload_n 1, 1) := by decide +kernel
theorem dX12_street_22 : decode cX12_street 22 = .ok (.bipush 11, 2) := by decide +kernel
theorem dX12_street_24 : decode cX12_street 24 = .ok (.if_icmp .ge 31, 3) := by decide +kernel
theorem dX12_street_27 : decode cX12_street 27 = .ok (.aload_n 0, 1) := by decide +kernel
theorem dX12_street_28 : decode cX12_street 28 = .ok (.getfield 9, 3) := by decide +kernel
theorem dX12_street_31 : decode cX12_street 31 = .ok (.iload_n 1, 1) := by decide +kernel
theorem dX12_street_32 : decode cX12_street 32 = .ok (.iload_n 1, 1) := by decide +kernel
theorem dX12_street_33 : decode cX12_street 33 = .ok (.bipush 9, 2) := by decide +kernel
theorem dX12_street_35 : decode cX12_street 35 = .ok (.if_icmp .ge 12, 3) := by decide +kernel
theorem dX12_street_38 : decode cX12_street 38 = .ok (.aload_n 0, 1) := by decide +kernel
theorem dX12_street_39 : decode cX12_street 39 = .ok (.getfield 61, 3) := by decide +kernel
theorem dX12_street_42 : decode cX12_street 42 = .ok (.iload_n 1, 1) := by decide +kernel
theorem dX12_street_43 : decode cX12_street 43 = .ok (.iaload, 1) := by decide +kernel
theorem dX12_street_44 : decode cX12_street 44 = .ok (.goto 4, 3) := by decide +kernel
theorem dX12_street_47 : decode cX12_street 47 = .ok (.iconst 0, 1) := by decide +kernel
theorem dX12_street_48 : decode cX12_street 48 = .ok (.iastore, 1) := by decide +kernel
theorem dX12_street_49 : decode cX12_street 49 = .ok (.iinc 1 1, 3) := by decide +kernel
theorem dX12_street_52 : decode cX12_street 52 = .ok (.goto (-31), 3) := by decide +kernel
theorem dX12_street_55 : decode cX12_street 55 = .ok (.aload_n 0, 1) := by decide +kernel
theorem dX12_street_56 : decode cX12_street 56 = .ok (.getfield 64, 3) := by decide +kernel
theorem dX12_street_59 : decode cX12_street 59 = .ok (.aload_n 0, 1) := by decide +kernel
theorem dX12_street_60 : decode cX12_street 60 = .ok (.getfield 13, 3) := by decide +kernel
theorem dX12_street_63 : decode cX12_street 63 = .ok (.invokestatic 332, 3) := by decide +kernel
theorem dX12_street_66 : decode cX12_street 66 = .ok (.aload_n 0, 1) := by decide +kernel
theorem dX12_street_67 : decode cX12_street 67 = .ok (.getfield 67, 3) := by decide +kernel
theorem dX12_street_70 : decode cX12_street 70 = .ok (.aload_n 0, 1) := by decide +kernel
theorem dX12_street_71 : decode cX12_street 71 = .ok (.getfield 16, 3) := by decide +kernel
theorem dX12_street_74 : decode cX12_street 74 = .ok (.invokestatic 332, 3) := by decide +kernel
theorem dX12_street_77 : decode cX12_street 77 = .ok (.aload_n 0, 1) := by decide +kernel
theorem dX12_street_78 : decode cX12_street 78 = .ok (.getfield 70, 3) := by decide +kernel
theorem dX12_street_81 : decode cX12_street 81 = .ok (.aload_n 0, 1) := by decide +kernel
theorem dX12_street_82 : decode cX12_street 82 = .ok (.getfield 19, 3) := by decide +kernel
theorem dX12_street_85 : decode cX12_street 85 = .ok (.invokestatic 332, 3) := by decide +kernel
theorem dX12_street_88 : decode cX12_street 88 = .ok (.aload_n 0, 1) := by decide +kernel
theorem dX12_street_89 : decode cX12_street 89 = .ok (.getfield 76, 3) := by decide +kernel
theorem dX12_street_92 : decode cX12_street 92 = .ok (.aload_n 0, 1) := by decide +kernel
theorem dX12_street_93 : decode cX12_street 93 = .ok (.getfield 25, 3) := by decide +kernel
theorem dX12_street_96 : decode cX12_street 96 = .ok (.invokestatic 332, 3) := by decide +kernel
theorem dX12_street_99 : decode cX12_street 99 = .ok (.aload_n 0, 1) := by decide +kernel
theorem dX12_street_100 : decode cX12_street 100 = .ok (.getfield 79, 3) := by decide +kernel
theorem dX12_street_103 : decode cX12_street 103 = .ok (.aload_n 0, 1) := by decide +kernel
theorem dX12_street_104 : decode cX12_street 104 = .ok (.getfield 28, 3) := by decide +kernel
theorem dX12_street_107 : decode cX12_street 107 = .ok (.invokestatic 332, 3) := by decide +kernel
theorem dX12_street_110 : decode cX12_street 110 = .ok (.aload_n 0, 1) := by decide +kernel
theorem dX12_street_111 : decode cX12_street 111 = .ok (.getfield 82, 3) := by decide +kernel
theorem dX12_street_114 : decode cX12_street 114 = .ok (.aload_n 0, 1) := by decide +kernel
theorem dX12_street_115 : decode cX12_street 115 = .ok (.getfield 49, 3) := by decide +kernel
theorem dX12_street_118 : decode cX12_street 118 = .ok (.invokestatic 332, 3) := by decide +kernel
theorem dX12_street_121 : decode cX12_street 121 = .ok (.aload_n 0, 1) := by decide +kernel
theorem dX12_street_122 : decode cX12_street 122 = .ok (.getfield 85, 3) := by decide +kernel
theorem dX12_street_125 : decode cX12_street 125 = .ok (.aload_n 0, 1) := by decide +kernel
theorem dX12_street_126 : decode cX12_street 126 = .ok (.getfield 52, 3) := by decide +kernel
theorem dX12_street_129 : decode cX12_street 129 = .ok (.invokestatic 332, 3) := by decide +kernel
theorem dX12_street_132 : decode cX12_street 132 = .ok (.aload_n 0, 1) := by decide +kernel
theorem dX12_street_133 : decode cX12_street 133 = .ok (.getfield 73, 3) := by decide +kernel
theorem dX12_street_136 : decode cX12_street 136 = .ok (.aload_n 0, 1) := by decide +kernel
theorem dX12_street_137 : decode cX12_street 137 = .ok (.getfield 55, 3) := by decide +kernel
theorem dX12_street_140 : decode cX12_street 140 = .ok (.invokestatic 332, 3) := by decide +kernel
theorem dX12_street_143 : decode cX12_street 143 = .ok (.aload_n 0, 1) := by decide +kernel
theorem dX12_street_144 : decode cX12_street 144 = .ok (.getfield 58, 3) := by decide +kernel
theorem dX12_street_147 : decode cX12_street 147 = .ok (.iconst 0, 1) := by decide +kernel
theorem dX12_street_148 : decode cX12_street 148 = .ok (.aload_n 0, 1) := by decide +kernel
theorem dX12_street_149 : decode cX12_street 149 = .ok (.getfield 61, 3) := by decide +kernel
theorem dX12_street_152 : decode cX12_street 152 = .ok (.bipush 8, 2) := by decide +kernel
theorem dX12_street_154 : decode cX12_street 154 = .ok (.iaload, 1) := by decide +kernel
theorem dX12_street_155 : decode cX12_street 155 = .ok (.iastore, 1) := by decide +kernel
theorem dX12_street_156 : decode cX12_street 156 = .ok (.aload_n 0, 1) := by decide +kernel
theorem dX12_street_157 : decode cX12_street 157 = .ok (.invokevirtual 346, 3) := by decide +kernel
theorem dX12_street_160 : decode cX12_street 160 = .ok (.aload_n 0, 1) := by decide +kernel
theorem dX12_street_161 : decode cX12_street 161 = .ok (.iconst 0, 1) := by decide +kernel
theorem dX12_street_162 : decode cX12_street 162 = .ok (.putfield 349, 3) := by decide +kernel
theorem dX12_street_165 : decode cX12_street 165 = .ok (.aload_n 0, 1) := by decide +kernel
theorem dX12_street_166 : decode cX12_street 166 = .ok (.getfield 9, 3) := by decide +kernel
theorem dX12_street_169 : decode cX12_street 169 = .ok (.iconst 4, 1) := by decide +kernel
theorem dX12_street_170 : decode cX12_street 170 = .ok (.iaload, 1) := by decide +kernel
theorem dX12_street_171 : decode cX12_street 171 = .ok (.ireturn, 1) := by decide +kernel
theorem dX12_ruleClause_0 : decode cX12_ruleClause 0 = .ok (.aload_n 0, 1) := by decide +kernel
theorem dX12_ruleClause_1 : decode cX12_ruleClause 1 = .ok (.invokevirtual 222, 3) := by decide +kernel
theorem dX12_ruleClause_4 : decode cX12_ruleClause 4 = .ok (.aload_n 0, 1) := by decide +kernel
theorem dX12_ruleClause_5 : decode cX12_ruleClause 5 = .ok (.getfield 202, 3) := by decide +kernel
theorem dX12_ruleClause_8 : decode cX12_ruleClause 8 = .ok (.istore_n 2, 1) := by decide +kernel
theorem dX12_ruleClause_9 : decode cX12_ruleClause 9 = .ok (.aload_n 0, 1) := by decide +kernel
theorem dX12_ruleClause_10 : decode cX12_ruleClause 10 = .ok (.ldc_w 352, 3) := by decide +kernel
theorem dX12_ruleClause_13 : decode cX12_ruleClause 13 = .ok (.invokevirtual 225, 3) := by decide +kernel
theorem dX12_ruleClause_16 : decode cX12_ruleClause 16 = .ok (.ifCond .ne 10, 3) := by decide +kernel
theorem dX12_ruleClause_19 : decode cX12_ruleClause 19 = .ok (.aload_n 0, 1) := by decide +kernel
theorem dX12_ruleClause_20 : decode cX12_ruleClause 20 = .ok (.iconst 0, 1) := by decide +kernel
theorem dX12_ruleClause_21 : decode cX12_ruleClause 21 = .ok (.iload_n 2, 1) := by decide +kernel
theorem dX12_ruleClause_22 : decode cX12_ruleClause 22 = .ok (.invokevirtual 238, 3) := by decide +kernel
theorem dX12_ruleClause_25 : decode cX12_ruleClause 25 = .ok (.return_, 1) := by decide +kernel
theorem dX12_ruleClause_26 : decode cX12_ruleClause 26 = .ok (.iload_n 1, 1) := by decide +kernel
theorem dX12_ruleClause_27 : decode cX12_ruleClause 27 = .ok (.bipush 12, 2) := by decide +kernel
theorem dX12_ruleClause_29 : decode cX12_ruleClause 29 = .ok (.if_icmp .ne 10, 3) := by decide +kernel
theorem dX12_ruleClause_32 : decode cX12_ruleClause 32 = .ok (.aload_n 0, 1) := by decide +kernel
theorem dX12_ruleClause_33 : decode cX12_ruleClause 33 = .ok (.iconst 4, 1) := by decide +kernel
theorem dX12_ruleClause_34 : decode cX12_ruleClause 34 = .ok (.iload_n 2, 1) := by decide +kernel
theorem dX12_ruleClause_35 : decode cX12_ruleClause 35 = .ok (.invokevirtual 238, 3) := by decide +kernel
theorem dX12_ruleClause_38 : decode cX12_ruleClause 38 = .ok (.return_, 1) := by decide +kernel
theorem dX12_ruleClause_39 : decode cX12_ruleClause 39 = .ok (.aload_n 0, 1) := by decide +kernel
theorem dX12_ruleClause_40 : decode cX12_ruleClause 40 = .ok (.dup, 1) := by decide +kernel
theorem dX12_ruleClause_41 : decode cX12_ruleClause 41 = .ok (.getfield 202, 3) := by decide +kernel
theorem dX12_ruleClause_44 : decode cX12_ruleClause 44 = .ok (.iconst 5, 1) := by decide +kernel
theorem dX12_ruleClause_45 : decode cX12_ruleClause 45 = .ok (.iadd, 1) := by decide +kernel
theorem dX12_ruleClause_46 : decode cX12_ruleClause 46 = .ok (.putfield 202, 3) := by decide +kernel
theorem dX12_ruleClause_49 : decode cX12_ruleClause 49 = .ok (.bipush 12, 2) := by decide +kernel
theorem dX12_ruleClause_51 : decode cX12_ruleClause 51 = .ok (.aload_n 0, 1) := by decide +kernel
theorem dX12_ruleClause_52 : decode cX12_ruleClause 52 = .ok (.getfield 229, 3) := by decide +kernel
theorem dX12_ruleClause_55 : decode cX12_ruleClause 55 = .ok (.imul, 1) := by decide +kernel
theorem dX12_ruleClause_56 : decode cX12_ruleClause 56 = .ok (.iload_n 1, 1) := by decide +kernel
theorem dX12_ruleClause_57 : decode cX12_ruleClause 57 = .ok (.iadd, 1) := by decide +kernel
theorem dX12_ruleClause_58 : decode cX12_ruleClause 58 = .ok (.istore_n 3, 1) := by decide +kernel
theorem dX12_ruleClause_59 : decode cX12_ruleClause 59 = .ok (.aload_n 0, 1) := by decide +kernel
theorem dX12_ruleClause_60 : decode cX12_ruleClause 60 = .ok (.getfield 105, 3) := by decide +kernel
theorem dX12_ruleClause_63 : decode cX12_ruleClause 63 = .ok (.iload_n 3, 1) := by decide +kernel
theorem dX12_ruleClause_64 : decode cX12_ruleClause 64 = .ok (.aload_n 0, 1) := by decide +kernel
theorem dX12_ruleClause_65 : decode cX12_ruleClause 65 = .ok (.getfield 232, 3) := by decide +kernel
theorem dX12_ruleClause_68 : decode cX12_ruleClause 68 = .ok (.iastore, 1) := by decide +kernel
theorem dX12_ruleClause_69 : decode cX12_ruleClause 69 = .ok (.aload_n 0, 1) := by decide +kernel
theorem dX12_ruleClause_70 : decode cX12_ruleClause 70 = .ok (.invokevirtual 266, 3) := by decide +kernel
theorem dX12_ruleClause_73 : decode cX12_ruleClause 73 = .ok (.aload_n 0, 1) := by decide +kernel
theorem dX12_ruleClause_74 : decode cX12_ruleClause 74 = .ok (.getfield 108, 3) := by decide +kernel
theorem dX12_ruleClause_77 : decode cX12_ruleClause 77 = .ok (.iload_n 3, 1) := by decide +kernel
theorem dX12_ruleClause_78 : decode cX12_ruleClause 78 = .ok (.aload_n 0, 1) := by decide +kernel
theorem dX12_ruleClause_79 : decode cX12_ruleClause 79 = .ok (.getfield 232, 3) := by decide +kernel
theorem dX12_ruleClause_82 : decode cX12_ruleClause 82 = .ok (.iastore, 1) := by decide +kernel
theorem dX12_ruleClause_83 : decode cX12_ruleClause 83 = .ok (.aload_n 0, 1) := by decide +kernel
theorem dX12_ruleClause_84 : decode cX12_ruleClause 84 = .ok (.getfield 199, 3) := by decide +kernel
theorem dX12_ruleClause_87 : decode cX12_ruleClause 87 = .ok (.ifCond .ne 17, 3) := by decide +kernel
theorem dX12_ruleClause_90 : decode cX12_ruleClause 90 = .ok (.aload_n 0, 1) := by decide +kernel
theorem dX12_ruleClause_91 : decode cX12_ruleClause 91 = .ok (.ldc_w 354, 3) := by decide +kernel
theorem dX12_ruleClause_94 : decode cX12_ruleClause 94 = .ok (.invokevirtual 356, 3) := by decide +kernel
theorem dX12_ruleClause_97 : decode cX12_ruleClause 97 = .ok (.ifCond .eq 7, 3) := by decide +kernel
theorem dX12_ruleClause_100 : decode cX12_ruleClause 100 = .ok (.aload_n 0, 1) := by decide +kernel
theorem dX12_ruleClause_101 : decode cX12_ruleClause 101 = .ok (.invokevirtual 359, 3) := by decide +kernel
theorem dX12_ruleClause_104 : decode cX12_ruleClause 104 = .ok (.aload_n 0, 1) := by decide +kernel
theorem dX12_ruleClause_105 : decode cX12_ruleClause 105 = .ok (.getfield 111, 3) := by decide +kernel
theorem dX12_ruleClause_108 : decode cX12_ruleClause 108 = .ok (.iload_n 3, 1) := by decide +kernel
theorem dX12_ruleClause_109 : decode cX12_ruleClause 109 = .ok (.aload_n 0, 1) := by decide +kernel
theorem dX12_ruleClause_110 : decode cX12_ruleClause 110 = .ok (.getfield 232, 3) := by decide +kernel
theorem dX12_ruleClause_113 : decode cX12_ruleClause 113 = .ok (.iastore, 1) := by decide +kernel
theorem dX12_ruleClause_114 : decode cX12_ruleClause 114 = .ok (.return_, 1) := by decide +kernel
theorem dX12_rule_0 : decode cX12_rule 0 = .ok (.aload_n 0, 1) := by decide +kernel
theorem dX12_rule_1 : decode cX12_rule 1 = .ok (.getfield 362, 3) := by decide +kernel
theorem dX12_rule_4 : decode cX12_rule 4 = .ok (.bipush 6, 2) := by decide +kernel
theorem dX12_rule_6 : decode cX12_rule 6 = .ok (.if_icmp .ne 5, 3) := by decide +kernel
theorem dX12_rule_9 : decode cX12_rule 9 = .ok (.iconst (-1), 1) := by decide +kernel
theorem dX12_rule_10 : decode cX12_rule 10 = .ok (.ireturn, 1) := by decide +kernel
theorem dX12_rule_11 : decode cX12_rule 11 = .ok (.aload_n 0, 1) := by decide +kernel
theorem dX12_rule_12 : decode cX12_rule 12 = .ok (.aload_n 0, 1) := by decide +kernel
theorem dX12_rule_13 : decode cX12_rule 13 = .ok (.getfield 362, 3) := by decide +kernel
theorem dX12_rule_16 : decode cX12_rule 16 = .ok (.putfield 229, 3) := by decide +kernel
theorem dX12_rule_19 : decode cX12_rule 19 = .ok (.aload_n 0, 1) := by decide +kernel
theorem dX12_rule_20 : decode cX12_rule 20 = .ok (.invokevirtual 323, 3) := by decide +kernel
theorem dX12_rule_23 : decode cX12_rule 23 = .ok (.iconst 0, 1) := by decide +kernel
theorem dX12_rule_24 : decode cX12_rule 24 = .ok (.istore_n 1, 1) := by decide +kernel
theorem dX12_rule_25 : decode cX12_rule 25 = .ok (.iconst 1, 1) := by decide +kernel
theorem dX12_rule_26 : decode cX12_rule 26 = .ok (.istore_n 2, 1) := by decide +kernel
theorem dX12_rule_27 : decode cX12_rule 27 = .ok (.iload_n 2, 1) := by decide +kernel
theorem dX12_rule_28 : decode cX12_rule 28 = .ok (.ifCond .eq 19, 3) := by decide +kernel
theorem dX12_rule_31 : decode cX12_rule 31 = .ok (.aload_n 0, 1) := by decide +kernel
theorem dX12_rule_32 : decode cX12_rule 32 = .ok (.iload_n 1, 1) := by decide +kernel
theorem dX12_rule_33 : decode cX12_rule 33 = .ok (.invokevirtual 365, 3) := by decide +kernel
theorem dX12_rule_36 : decode cX12_rule 36 = .ok (.iinc 1 1, 3) := by decide +kernel
theorem dX12_rule_39 : decode cX12_rule 39 = .ok (.aload_n 0, 1) := by decide +kernel
theorem dX12_rule_40 : decode cX12_rule 40 = .ok (.invokevirtual 329, 3) := by decide +kernel
theorem dX12_rule_43 : decode cX12_rule 43 = .ok (.istore_n 2, 1) := by decide +kernel
theorem dX12_rule_44 : decode cX12_rule 44 = .ok (.goto (-17), 3) := by decide +kernel
theorem dX12_rule_47 : decode cX12_rule 47 = .ok (.aload_n 0, 1) := by decide +kernel
theorem dX12_rule_48 : decode cX12_rule 48 = .ok (.iconst 0, 1) := by decide +kernel
theorem dX12_rule_49 : decode cX12_rule 49 = .ok (.putfield 168, 3) := by decide +kernel
theorem dX12_rule_52 : decode cX12_rule 52 = .ok (.aload_n 0, 1) := by decide +kernel
theorem dX12_rule_53 : decode cX12_rule 53 = .ok (.getfield 102, 3) := by decide +kernel
theorem dX12_rule_56 : decode cX12_rule 56 = .ok (.aload_n 0, 1) := by decide +kernel
theorem dX12_rule_57 : decode cX12_rule 57 = .ok (.getfield 229, 3) := by decide +kernel
theorem dX12_rule_60 : decode cX12_rule 60 = .ok (.iload_n 1, 1) := by decide +kernel
theorem dX12_rule_61 : decode cX12_rule 61 = .ok (.iastore, 1) := by decide +kernel
theorem dX12_rule_62 : decode cX12_rule 62 = .ok (.aload_n 0, 1) := by decide +kernel
theorem dX12_rule_63 : decode cX12_rule 63 = .ok (.dup, 1) := by decide +kernel
theorem dX12_rule_64 : decode cX12_rule 64 = .ok (.getfield 362, 3) := by decide +kernel
theorem dX12_rule_67 : decode cX12_rule 67 = .ok (.aload_n 0, 1) := by decide +kernel
theorem dX12_rule_68 : decode cX12_rule 68 = .ok (.getfield 199, 3) := by decide +kernel
theorem dX12_rule_71 : decode cX12_rule 71 = .ok (.ifCond .ne 7, 3) := by decide +kernel
theorem dX12_rule_74 : decode cX12_rule 74 = .ok (.iconst 1, 1) := by decide +kernel
theorem dX12_rule_75 : decode cX12_rule 75 = .ok (.goto 4, 3) := by decide +kernel
theorem dX12_rule_78 : decode cX12_rule 78 = .ok (.iconst 0, 1) := by decide +kernel
theorem dX12_rule_79 : decode cX12_rule 79 = .ok (.iadd, 1) := by decide +kernel
theorem dX12_rule_80 : decode cX12_rule 80 = .ok (.putfield 362, 3) := by decide +kernel
theorem dX12_rule_83 : decode cX12_rule 83 = .ok (.aload_n 0, 1) := by decide +kernel
theorem dX12_rule_84 : decode cX12_rule 84 = .ok (.getfield 199, 3) := by decide +kernel
theorem dX12_rule_87 : decode cX12_rule 87 = .ok (.ifCond .le 13, 3) := by decide +kernel
theorem dX12_rule_90 : decode cX12_rule 90 = .ok (.bipush (-2), 2) := by decide +kernel
theorem dX12_rule_92 : decode cX12_rule 92 = .ok (.aload_n 0, 1) := by decide +kernel
theorem dX12_rule_93 : decode cX12_rule 93 = .ok (.getfield 199, 3) := by decide +kernel
theorem dX12_rule_96 : decode cX12_rule 96 = .ok (.isub, 1) := by decide +kernel
theorem dX12_rule_97 : decode cX12_rule 97 = .ok (.goto 9, 3) := by decide +kernel
theorem dX12_rule_100 : decode cX12_rule 100 = .ok (.aload_n 0, 1) := by decide +kernel
theorem dX12_rule_101 : decode cX12_rule 101 = .ok (.getfield 362, 3) := by decide +kernel
theorem dX12_rule_104 : decode cX12_rule 104 = .ok (.iconst 1, 1) := by decide +kernel
theorem dX12_rule_105 : decode cX12_rule 105 = .ok (.isub, 1) := by decide +kernel
theorem dX12_rule_106 : decode cX12_rule 106 = .ok (.ireturn, 1) := by decide +kernel
theorem dX12_force_0 : decode cX12_force 0 = .ok (.iload_n 1, 1) := by decide +kernel
theorem dX12_force_1 : decode cX12_force 1 = .ok (.i2l, 1) := by decide +kernel
theorem dX12_force_2 : decode cX12_force 2 = .ok (.ldc2_w 368, 3) := by decide +kernel
theorem dX12_force_5 : decode cX12_force 5 = .ok (.aload_n 0, 1) := by decide +kernel
theorem dX12_force_6 : decode cX12_force 6 = .ok (.getfield 362, 3) := by decide +kernel
theorem dX12_force_9 : decode cX12_force 9 = .ok (.iconst 1, 1) := by decide +kernel
theorem dX12_force_10 : decode cX12_force 10 = .ok (.isub, 1) := by decide +kernel
theorem dX12_force_11 : decode cX12_force 11 = .ok (.i2l, 1) := by decide +kernel
theorem dX12_force_12 : decode cX12_force 12 = .ok (.invokestatic 164, 3) := by decide +kernel
theorem dX12_force_15 : decode cX12_force 15 = .ok (.ifCond .ne 6, 3) := by decide +kernel
theorem dX12_force_18 : decode cX12_force 18 = .ok (.bipush (-2), 2) := by decide +kernel
theorem dX12_force_20 : decode cX12_force 20 = .ok (.ireturn, 1) := by decide +kernel
theorem dX12_force_21 : decode cX12_force 21 = .ok (.aload_n 0, 1) := by decide +kernel
theorem dX12_force_22 : decode cX12_force 22 = .ok (.getfield 9, 3) := by decide +kernel
theorem dX12_force_25 : decode cX12_force 25 = .ok (.bipush 12, 2) := by decide +kernel
theorem dX12_force_27 : decode cX12_force 27 = .ok (.iaload, 1) := by decide +kernel
theorem dX12_force_28 : decode cX12_force 28 = .ok (.istore_n 2, 1) := by decide +kernel
theorem dX12_force_29 : decode cX12_force 29 = .ok (.aload_n 0, 1) := by decide +kernel
theorem dX12_force_30 : decode cX12_force 30 = .ok (.getfield 9, 3) := by decide +kernel
theorem dX12_force_33 : decode cX12_force 33 = .ok (.bipush 12, 2) := by decide +kernel
theorem dX12_force_35 : decode cX12_force 35 = .ok (.iload_n 1, 1) := by decide +kernel
theorem dX12_force_36 : decode cX12_force 36 = .ok (.iastore, 1) := by decide +kernel
theorem dX12_force_37 : decode cX12_force 37 = .ok (.iload_n 2, 1) := by decide +kernel
theorem dX12_force_38 : decode cX12_force 38 = .ok (.ireturn, 1) := by decide +kernel
theorem dX12_wanted_0 : decode cX12_wanted 0 = .ok (.aload_n 0, 1) := by decide +kernel
theorem dX12_wanted_1 : decode cX12_wanted 1 = .ok (.getfield 9, 3) := by decide +kernel
theorem dX12_wanted_4 : decode cX12_wanted 4 = .ok (.bipush 12, 2) := by decide +kernel
theorem dX12_wanted_6 : decode cX12_wanted 6 = .ok (.iaload, 1) := by decide +kernel
theorem dX12_wanted_7 : decode cX12_wanted 7 = .ok (.istore_n 1, 1) := by decide +kernel
theorem dX12_wanted_8 : decode cX12_wanted 8 = .ok (.bipush 12, 2) := by decide +kernel
theorem dX12_wanted_10 : decode cX12_wanted 10 = .ok (.iload_n 1, 1) := by decide +kernel
theorem dX12_wanted_11 : decode cX12_wanted 11 = .ok (.imul, 1) := by decide +kernel
theorem dX12_wanted_12 : decode cX12_wanted 12 = .ok (.istore_n 2, 1) := by decide +kernel
theorem dX12_wanted_13 : decode cX12_wanted 13 = .ok (.iload_n 2, 1) := by decide +kernel
theorem dX12_wanted_14 : decode cX12_wanted 14 = .ok (.bipush 12, 2) := by decide +kernel
theorem dX12_wanted_16 : decode cX12_wanted 16 = .ok (.iload_n 1, 1) := by decide +kernel
theorem dX12_wanted_17 : decode cX12_wanted 17 = .ok (.imul, 1) := by decide +kernel
theorem dX12_wanted_18 : decode cX12_wanted 18 = .ok (.aload_n 0, 1) := by decide +kernel
theorem dX12_wanted_19 : decode cX12_wanted 19 = .ok (.getfield 102, 3) := by decide +kernel
theorem dX12_wanted_22 : decode cX12_wanted 22 = .ok (.iload_n 1, 1) := by decide +kernel
theorem dX12_wanted_23 : decode cX12_wanted 23 = .ok (.iaload, 1) := by decide +kernel
theorem dX12_wanted_24 : decode cX12_wanted 24 = .ok (.iadd, 1) := by decide +kernel
theorem dX12_wanted_25 : decode cX12_wanted 25 = .ok (.if_icmp .ge 64, 3) := by decide +kernel
theorem dX12_wanted_28 : decode cX12_wanted 28 = .ok (.aload_n 0, 1) := by decide +kernel
theorem dX12_wanted_29 : decode cX12_wanted 29 = .ok (.getfield 108, 3) := by decide +kernel
theorem dX12_wanted_32 : decode cX12_wanted 32 = .ok (.iload_n 2, 1) := by decide +kernel
theorem dX12_wanted_33 : decode cX12_wanted 33 = .ok (.iaload, 1) := by decide +kernel
theorem dX12_wanted_34 : decode cX12_wanted 34 = .ok (.aload_n 0, 1) := by decide +kernel
theorem dX12_wanted_35 : decode cX12_wanted 35 = .ok (.getfield 111, 3) := by decide +kernel
theorem dX12_wanted_38 : decode cX12_wanted 38 = .ok (.iload_n 2, 1) := by decide +kernel
theorem dX12_wanted_39 : decode cX12_wanted 39 = .ok (.iaload, 1) := by decide +kernel
theorem dX12_wanted_40 : decode cX12_wanted 40 = .ok (.if_icmp .eq 25, 3) := by decide +kernel
theorem dX12_wanted_43 : decode cX12_wanted 43 = .ok (.aload_n 0, 1) := by decide +kernel
theorem dX12_wanted_44 : decode cX12_wanted 44 = .ok (.iload_n 1, 1) := by decide +kernel
theorem dX12_wanted_45 : decode cX12_wanted 45 = .ok (.aload_n 0, 1) := by decide +kernel
theorem dX12_wanted_46 : decode cX12_wanted 46 = .ok (.getfield 108, 3) := by decide +kernel
theorem dX12_wanted_49 : decode cX12_wanted 49 = .ok (.iload_n 2, 1) := by decide +kernel
theorem dX12_wanted_50 : decode cX12_wanted 50 = .ok (.iaload, 1) := by decide +kernel
theorem dX12_wanted_51 : decode cX12_wanted 51 = .ok (.aload_n 0, 1) := by decide +kernel
theorem dX12_wanted_52 : decode cX12_wanted 52 = .ok (.getfield 111, 3) := by decide +kernel
theorem dX12_wanted_55 : decode cX12_wanted 55 = .ok (.iload_n 2, 1) := by decide +kernel
theorem dX12_wanted_56 : decode cX12_wanted 56 = .ok (.iaload, 1) := by decide +kernel
theorem dX12_wanted_57 : decode cX12_wanted 57 = .ok (.invokevirtual 370, 3) := by decide +kernel
theorem dX12_wanted_60 : decode cX12_wanted 60 = .ok (.lconst 1, 1) := by decide +kernel
theorem dX12_wanted_61 : decode cX12_wanted 61 = .ok (.lcmp, 1) := by decide +kernel
theorem dX12_wanted_62 : decode cX12_wanted 62 = .ok (.ifCond .ne 21, 3) := by decide +kernel
theorem dX12_wanted_65 : decode cX12_wanted 65 = .ok (.aload_n 0, 1) := by decide +kernel
theorem dX12_wanted_66 : decode cX12_wanted 66 = .ok (.iload_n 1, 1) := by decide +kernel
theorem dX12_wanted_67 : decode cX12_wanted 67 = .ok (.aload_n 0, 1) := by decide +kernel
theorem dX12_wanted_68 : decode cX12_wanted 68 = .ok (.getfield 105, 3) := by decide +kernel
theorem dX12_wanted_71 : decode cX12_wanted 71 = .ok (.iload_n 2, 1) := by decide +kernel
theorem dX12_wanted_72 : decode cX12_wanted 72 = .ok (.iaload, 1) := by decide +kernel
theorem dX12_wanted_73 : decode cX12_wanted 73 = .ok (.aload_n 0, 1) := by decide +kernel
theorem dX12_wanted_74 : decode cX12_wanted 74 = .ok (.getfield 108, 3) := by decide +kernel
theorem dX12_wanted_77 : decode cX12_wanted 77 = .ok (.iload_n 2, 1) := by decide +kernel
theorem dX12_wanted_78 : decode cX12_wanted 78 = .ok (.iaload, 1) := by decide +kernel
theorem dX12_wanted_79 : decode cX12_wanted 79 = .ok (.invokevirtual 370, 3) := by decide +kernel
theorem dX12_wanted_82 : decode cX12_wanted 82 = .ok (.lreturn, 1) := by decide +kernel
theorem dX12_wanted_83 : decode cX12_wanted 83 = .ok (.iinc 2 1, 3) := by decide +kernel
theorem dX12_wanted_86 : decode cX12_wanted 86 = .ok (.goto (-73), 3) := by decide +kernel
theorem dX12_wanted_89 : decode cX12_wanted 89 = .ok (.lconst 0, 1) := by decide +kernel
theorem dX12_wanted_90 : decode cX12_wanted 90 = .ok (.lreturn, 1) := by decide +kernel
theorem dX12_truth_0 : decode cX12_truth 0 = .ok (.iload_n 0, 1) := by decide +kernel
theorem dX12_truth_1 : decode cX12_truth 1 = .ok (.ifCond .eq 7, 3) := by decide +kernel
theorem dX12_truth_4 : decode cX12_truth 4 = .ok (.lconst 1, 1) := by decide +kernel
theorem dX12_truth_5 : decode cX12_truth 5 = .ok (.goto 4, 3) := by decide +kernel
theorem dX12_truth_8 : decode cX12_truth 8 = .ok (.lconst 0, 1) := by decide +kernel
theorem dX12_truth_9 : decode cX12_truth 9 = .ok (.lreturn, 1) := by decide +kernel
theorem dX12_both_0 : decode cX12_both 0 = .ok (.iload_n 0, 1) := by decide +kernel
theorem dX12_both_1 : decode cX12_both 1 = .ok (.tableswitch 190 2 15 #[71, 75, 111, 126, 141, 156, 171, 190, 186, 190, 190, 79, 83, 97], 71) := by decide +kernel
theorem dX12_both_72 : decode cX12_both 72 = .ok (.lload_n 1, 1) := by decide +kernel
theorem dX12_both_73 : decode cX12_both 73 = .ok (.lload_n 3, 1) := by decide +kernel
theorem dX12_both_74 : decode cX12_both 74 = .ok (.ladd, 1) := by decide +kernel
theorem dX12_both_75 : decode cX12_both 75 = .ok (.lreturn, 1) := by decide +kernel
theorem dX12_both_76 : decode cX12_both 76 = .ok (.lload_n 1, 1) := by decide +kernel
theorem dX12_both_77 : decode cX12_both 77 = .ok (.lload_n 3, 1) := by decide +kernel
theorem dX12_both_78 : decode cX12_both 78 = .ok (.lsub, 1) := by decide +kernel
theorem dX12_both_79 : decode cX12_both 79 = .ok (.lreturn, 1) := by decide +kernel
theorem dX12_both_80 : decode cX12_both 80 = .ok (.lload_n 1, 1) := by decide +kernel
theorem dX12_both_81 : decode cX12_both 81 = .ok (.lload_n 3, 1) := by decide +kernel
theorem dX12_both_82 : decode cX12_both 82 = .ok (.lmul, 1) := by decide +kernel
theorem dX12_both_83 : decode cX12_both 83 = .ok (.lreturn, 1) := by decide +kernel
theorem dX12_both_84 : decode cX12_both 84 = .ok (.lload_n 3, 1) := by decide +kernel
theorem dX12_both_85 : decode cX12_both 85 = .ok (.lconst 0, 1) := by decide +kernel
theorem dX12_both_86 : decode cX12_both 86 = .ok (.lcmp, 1) := by decide +kernel
theorem dX12_both_87 : decode cX12_both 87 = .ok (.ifCond .ne 7, 3) := by decide +kernel
theorem dX12_both_90 : decode cX12_both 90 = .ok (.lconst 0, 1) := by decide +kernel
theorem dX12_both_91 : decode cX12_both 91 = .ok (.goto 6, 3) := by decide +kernel
theorem dX12_both_94 : decode cX12_both 94 = .ok (.lload_n 1, 1) := by decide +kernel
theorem dX12_both_95 : decode cX12_both 95 = .ok (.lload_n 3, 1) := by decide +kernel
theorem dX12_both_96 : decode cX12_both 96 = .ok (.ldiv, 1) := by decide +kernel
theorem dX12_both_97 : decode cX12_both 97 = .ok (.lreturn, 1) := by decide +kernel
theorem dX12_both_98 : decode cX12_both 98 = .ok (.lload_n 3, 1) := by decide +kernel
theorem dX12_both_99 : decode cX12_both 99 = .ok (.lconst 0, 1) := by decide +kernel
theorem dX12_both_100 : decode cX12_both 100 = .ok (.lcmp, 1) := by decide +kernel
theorem dX12_both_101 : decode cX12_both 101 = .ok (.ifCond .ne 7, 3) := by decide +kernel
theorem dX12_both_104 : decode cX12_both 104 = .ok (.lconst 0, 1) := by decide +kernel
theorem dX12_both_105 : decode cX12_both 105 = .ok (.goto 6, 3) := by decide +kernel
theorem dX12_both_108 : decode cX12_both 108 = .ok (.lload_n 1, 1) := by decide +kernel
theorem dX12_both_109 : decode cX12_both 109 = .ok (.lload_n 3, 1) := by decide +kernel
theorem dX12_both_110 : decode cX12_both 110 = .ok (.lrem, 1) := by decide +kernel
theorem dX12_both_111 : decode cX12_both 111 = .ok (.lreturn, 1) := by decide +kernel
theorem dX12_both_112 : decode cX12_both 112 = .ok (.lload_n 1, 1) := by decide +kernel
theorem dX12_both_113 : decode cX12_both 113 = .ok (.lload_n 3, 1) := by decide +kernel
theorem dX12_both_114 : decode cX12_both 114 = .ok (.lcmp, 1) := by decide +kernel
theorem dX12_both_115 : decode cX12_both 115 = .ok (.ifCond .ge 7, 3) := by decide +kernel
theorem dX12_both_118 : decode cX12_both 118 = .ok (.iconst 1, 1) := by decide +kernel
theorem dX12_both_119 : decode cX12_both 119 = .ok (.goto 4, 3) := by decide +kernel
theorem dX12_both_122 : decode cX12_both 122 = .ok (.iconst 0, 1) := by decide +kernel
theorem dX12_both_123 : decode cX12_both 123 = .ok (.invokestatic 374, 3) := by decide +kernel
theorem dX12_both_126 : decode cX12_both 126 = .ok (.lreturn, 1) := by decide +kernel
theorem dX12_both_127 : decode cX12_both 127 = .ok (.lload_n 1, 1) := by decide +kernel
theorem dX12_both_128 : decode cX12_both 128 = .ok (.lload_n 3, 1) := by decide +kernel
theorem dX12_both_129 : decode cX12_both 129 = .ok (.lcmp, 1) := by decide +kernel
theorem dX12_both_130 : decode cX12_both 130 = .ok (.ifCond .gt 7, 3) := by decide +kernel
theorem dX12_both_133 : decode cX12_both 133 = .ok (.iconst 1, 1) := by decide +kernel
theorem dX12_both_134 : decode cX12_both 134 = .ok (.goto 4, 3) := by decide +kernel
theorem dX12_both_137 : decode cX12_both 137 = .ok (.iconst 0, 1) := by decide +kernel
theorem dX12_both_138 : decode cX12_both 138 = .ok (.invokestatic 374, 3) := by decide +kernel
theorem dX12_both_141 : decode cX12_both 141 = .ok (.lreturn, 1) := by decide +kernel
theorem dX12_both_142 : decode cX12_both 142 = .ok (.lload_n 1, 1) := by decide +kernel
theorem dX12_both_143 : decode cX12_both 143 = .ok (.lload_n 3, 1) := by decide +kernel
theorem dX12_both_144 : decode cX12_both 144 = .ok (.lcmp, 1) := by decide +kernel
theorem dX12_both_145 : decode cX12_both 145 = .ok (.ifCond .ne 7, 3) := by decide +kernel
theorem dX12_both_148 : decode cX12_both 148 = .ok (.iconst 1, 1) := by decide +kernel
theorem dX12_both_149 : decode cX12_both 149 = .ok (.goto 4, 3) := by decide +kernel
theorem dX12_both_152 : decode cX12_both 152 = .ok (.iconst 0, 1) := by decide +kernel
theorem dX12_both_153 : decode cX12_both 153 = .ok (.invokestatic 374, 3) := by decide +kernel
theorem dX12_both_156 : decode cX12_both 156 = .ok (.lreturn, 1) := by decide +kernel
theorem dX12_both_157 : decode cX12_both 157 = .ok (.lload_n 1, 1) := by decide +kernel
theorem dX12_both_158 : decode cX12_both 158 = .ok (.lload_n 3, 1) := by decide +kernel
theorem dX12_both_159 : decode cX12_both 159 = .ok (.lcmp, 1) := by decide +kernel
theorem dX12_both_160 : decode cX12_both 160 = .ok (.ifCond .lt 7, 3) := by decide +kernel
theorem dX12_both_163 : decode cX12_both 163 = .ok (.iconst 1, 1) := by decide +kernel
theorem dX12_both_164 : decode cX12_both 164 = .ok (.goto 4, 3) := by decide +kernel
theorem dX12_both_167 : decode cX12_both 167 = .ok (.iconst 0, 1) := by decide +kernel
theorem dX12_both_168 : decode cX12_both 168 = .ok (.invokestatic 374, 3) := by decide +kernel
theorem dX12_both_171 : decode cX12_both 171 = .ok (.lreturn, 1) := by decide +kernel
theorem dX12_both_172 : decode cX12_both 172 = .ok (.lload_n 1, 1) := by decide +kernel
theorem dX12_both_173 : decode cX12_both 173 = .ok (.lload_n 3, 1) := by decide +kernel
theorem dX12_both_174 : decode cX12_both 174 = .ok (.lcmp, 1) := by decide +kernel
theorem dX12_both_175 : decode cX12_both 175 = .ok (.ifCond .le 7, 3) := by decide +kernel
theorem dX12_both_178 : decode cX12_both 178 = .ok (.iconst 1, 1) := by decide +kernel
theorem dX12_both_179 : decode cX12_both 179 = .ok (.goto 4, 3) := by decide +kernel
theorem dX12_both_182 : decode cX12_both 182 = .ok (.iconst 0, 1) := by decide +kernel
theorem dX12_both_183 : decode cX12_both 183 = .ok (.invokestatic 374, 3) := by decide +kernel
theorem dX12_both_186 : decode cX12_both 186 = .ok (.lreturn, 1) := by decide +kernel
theorem dX12_both_187 : decode cX12_both 187 = .ok (.lload_n 1, 1) := by decide +kernel
theorem dX12_both_188 : decode cX12_both 188 = .ok (.lload_n 3, 1) := by decide +kernel
theorem dX12_both_189 : decode cX12_both 189 = .ok (.land, 1) := by decide +kernel
theorem dX12_both_190 : decode cX12_both 190 = .ok (.lreturn, 1) := by decide +kernel
theorem dX12_both_191 : decode cX12_both 191 = .ok (.lload_n 1, 1) := by decide +kernel
theorem dX12_both_192 : decode cX12_both 192 = .ok (.lload_n 3, 1) := by decide +kernel
theorem dX12_both_193 : decode cX12_both 193 = .ok (.lor, 1) := by decide +kernel
theorem dX12_both_194 : decode cX12_both 194 = .ok (.lreturn, 1) := by decide +kernel
theorem dX12_answer_0 : decode cX12_answer 0 = .ok (.iconst 0, 1) := by decide +kernel
theorem dX12_answer_1 : decode cX12_answer 1 = .ok (.istore 4, 2) := by decide +kernel
theorem dX12_answer_3 : decode cX12_answer 3 = .ok (.iload_n 2, 1) := by decide +kernel
theorem dX12_answer_4 : decode cX12_answer 4 = .ok (.istore 5, 2) := by decide +kernel
theorem dX12_answer_6 : decode cX12_answer 6 = .ok (.iload 5, 2) := by decide +kernel
theorem dX12_answer_8 : decode cX12_answer 8 = .ok (.iload_n 3, 1) := by decide +kernel
theorem dX12_answer_9 : decode cX12_answer 9 = .ok (.if_icmp .ge 144, 3) := by decide +kernel
theorem dX12_answer_12 : decode cX12_answer 12 = .ok (.aload_n 0, 1) := by decide +kernel
theorem dX12_answer_13 : decode cX12_answer 13 = .ok (.getfield 96, 3) := by decide +kernel
theorem dX12_answer_16 : decode cX12_answer 16 = .ok (.sipush 300, 3) := by decide +kernel
theorem dX12_answer_19 : decode cX12_answer 19 = .ok (.iload_n 1, 1) := by decide +kernel
theorem dX12_answer_20 : decode cX12_answer 20 = .ok (.imul, 1) := by decide +kernel
theorem dX12_answer_21 : decode cX12_answer 21 = .ok (.iload 5, 2) := by decide +kernel
theorem dX12_answer_23 : decode cX12_answer 23 = .ok (.iadd, 1) := by decide +kernel
theorem dX12_answer_24 : decode cX12_answer 24 = .ok (.iaload, 1) := by decide +kernel
theorem dX12_answer_25 : decode cX12_answer 25 = .ok (.istore 6, 2) := by decide +kernel
theorem dX12_answer_27 : decode cX12_answer 27 = .ok (.aload_n 0, 1) := by decide +kernel
theorem dX12_answer_28 : decode cX12_answer 28 = .ok (.getfield 99, 3) := by decide +kernel
theorem dX12_answer_31 : decode cX12_answer 31 = .ok (.sipush 300, 3) := by decide +kernel
theorem dX12_answer_34 : decode cX12_answer 34 = .ok (.iload_n 1, 1) := by decide +kernel
theorem dX12_answer_35 : decode cX12_answer 35 = .ok (.imul, 1) := by decide +kernel
theorem dX12_answer_36 : decode cX12_answer 36 = .ok (.iload 5, 2) := by decide +kernel
theorem dX12_answer_38 : decode cX12_answer 38 = .ok (.iadd, 1) := by decide +kernel
theorem dX12_answer_39 : decode cX12_answer 39 = .ok (.iaload, 1) := by decide +kernel
theorem dX12_answer_40 : decode cX12_answer 40 = .ok (.istore 7, 2) := by decide +kernel
theorem dX12_answer_42 : decode cX12_answer 42 = .ok (.iload 6, 2) := by decide +kernel
theorem dX12_answer_44 : decode cX12_answer 44 = .ok (.ifCond .eq 9, 3) := by decide +kernel
theorem dX12_answer_47 : decode cX12_answer 47 = .ok (.iload 6, 2) := by decide +kernel
theorem dX12_answer_49 : decode cX12_answer 49 = .ok (.iconst 1, 1) := by decide +kernel
theorem dX12_answer_50 : decode cX12_answer 50 = .ok (.if_icmp .ne 34, 3) := by decide +kernel
theorem dX12_answer_53 : decode cX12_answer 53 = .ok (.aload_n 0, 1) := by decide +kernel
theorem dX12_answer_54 : decode cX12_answer 54 = .ok (.getfield 121, 3) := by decide +kernel
theorem dX12_answer_57 : decode cX12_answer 57 = .ok (.iload 4, 2) := by decide +kernel
theorem dX12_answer_59 : decode cX12_answer 59 = .ok (.iload 6, 2) := by decide +kernel
theorem dX12_answer_61 : decode cX12_answer 61 = .ok (.ifCond .ne 9, 3) := by decide +kernel
theorem dX12_answer_64 : decode cX12_answer 64 = .ok (.iload 7, 2) := by decide +kernel
theorem dX12_answer_66 : decode cX12_answer 66 = .ok (.i2l, 1) := by decide +kernel
theorem dX12_answer_67 : decode cX12_answer 67 = .ok (.goto 10, 3) := by decide +kernel
theorem dX12_answer_70 : decode cX12_answer 70 = .ok (.aload_n 0, 1) := by decide +kernel
theorem dX12_answer_71 : decode cX12_answer 71 = .ok (.getfield 117, 3) := by decide +kernel
theorem dX12_answer_74 : decode cX12_answer 74 = .ok (.iload 7, 2) := by decide +kernel
theorem dX12_answer_76 : decode cX12_answer 76 = .ok (.laload, 1) := by decide +kernel
theorem dX12_answer_77 : decode cX12_answer 77 = .ok (.lastore, 1) := by decide +kernel
theorem dX12_answer_78 : decode cX12_answer 78 = .ok (.iinc 4 1, 3) := by decide +kernel
theorem dX12_answer_81 : decode cX12_answer 81 = .ok (.goto 66, 3) := by decide +kernel
theorem dX12_answer_84 : decode cX12_answer 84 = .ok (.iload 6, 2) := by decide +kernel
theorem dX12_answer_86 : decode cX12_answer 86 = .ok (.bipush 9, 2) := by decide +kernel
theorem dX12_answer_88 : decode cX12_answer 88 = .ok (.if_icmp .ne 26, 3) := by decide +kernel
theorem dX12_answer_91 : decode cX12_answer 91 = .ok (.aload_n 0, 1) := by decide +kernel
theorem dX12_answer_92 : decode cX12_answer 92 = .ok (.getfield 121, 3) := by decide +kernel
theorem dX12_answer_95 : decode cX12_answer 95 = .ok (.iload 4, 2) := by decide +kernel
theorem dX12_answer_97 : decode cX12_answer 97 = .ok (.iconst 1, 1) := by decide +kernel
theorem dX12_answer_98 : decode cX12_answer 98 = .ok (.isub, 1) := by decide +kernel
theorem dX12_answer_99 : decode cX12_answer 99 = .ok (.lconst 1, 1) := by decide +kernel
theorem dX12_answer_100 : decode cX12_answer 100 = .ok (.aload_n 0, 1) := by decide +kernel
theorem dX12_answer_101 : decode cX12_answer 101 = .ok (.getfield 121, 3) := by decide +kernel
theorem dX12_answer_104 : decode cX12_answer 104 = .ok (.iload 4, 2) := by decide +kernel
theorem dX12_answer_106 : decode cX12_answer 106 = .ok (.iconst 1, 1) := by decide +kernel
theorem dX12_answer_107 : decode cX12_answer 107 = .ok (.isub, 1) := by decide +kernel
theorem dX12_answer_108 : decode cX12_answer 108 = .ok (.laload, 1) := by decide +kernel
theorem dX12_answer_109 : decode cX12_answer 109 = .ok (.lsub, 1) := by decide +kernel
theorem dX12_answer_110 : decode cX12_answer 110 = .ok (.lastore, 1) := by decide +kernel
theorem dX12_answer_111 : decode cX12_answer 111 = .ok (.goto 36, 3) := by decide +kernel
theorem dX12_answer_114 : decode cX12_answer 114 = .ok (.iinc 4 (-1), 3) := by decide +kernel
theorem dX12_answer_117 : decode cX12_answer 117 = .ok (.aload_n 0, 1) := by decide +kernel
theorem dX12_answer_118 : decode cX12_answer 118 = .ok (.getfield 121, 3) := by decide +kernel
theorem dX12_answer_121 : decode cX12_answer 121 = .ok (.iload 4, 2) := by decide +kernel
theorem dX12_answer_123 : decode cX12_answer 123 = .ok (.iconst 1, 1) := by decide +kernel
theorem dX12_answer_124 : decode cX12_answer 124 = .ok (.isub, 1) := by decide +kernel
theorem dX12_answer_125 : decode cX12_answer 125 = .ok (.iload 6, 2) := by decide +kernel
theorem dX12_answer_127 : decode cX12_answer 127 = .ok (.aload_n 0, 1) := by decide +kernel
theorem dX12_answer_128 : decode cX12_answer 128 = .ok (.getfield 121, 3) := by decide +kernel
theorem dX12_answer_131 : decode cX12_answer 131 = .ok (.iload 4, 2) := by decide +kernel
theorem dX12_answer_133 : decode cX12_answer 133 = .ok (.iconst 1, 1) := by decide +kernel
theorem dX12_answer_134 : decode cX12_answer 134 = .ok (.isub, 1) := by decide +kernel
theorem dX12_answer_135 : decode cX12_answer 135 = .ok (.laload, 1) := by decide +kernel
theorem dX12_answer_136 : decode cX12_answer 136 = .ok (.aload_n 0, 1) := by decide +kernel
theorem dX12_answer_137 : decode cX12_answer 137 = .ok (.getfield 121, 3) := by decide +kernel
theorem dX12_answer_140 : decode cX12_answer 140 = .ok (.iload 4, 2) := by decide +kernel
theorem dX12_answer_142 : decode cX12_answer 142 = .ok (.laload, 1) := by decide +kernel
theorem dX12_answer_143 : decode cX12_answer 143 = .ok (.invokestatic 378, 3) := by decide +kernel
theorem dX12_answer_146 : decode cX12_answer 146 = .ok (.lastore, 1) := by decide +kernel
theorem dX12_answer_147 : decode cX12_answer 147 = .ok (.iinc 5 1, 3) := by decide +kernel
theorem dX12_answer_150 : decode cX12_answer 150 = .ok (.goto (-144), 3) := by decide +kernel
theorem dX12_answer_153 : decode cX12_answer 153 = .ok (.aload_n 0, 1) := by decide +kernel
theorem dX12_answer_154 : decode cX12_answer 154 = .ok (.getfield 121, 3) := by decide +kernel
theorem dX12_answer_157 : decode cX12_answer 157 = .ok (.iconst 0, 1) := by decide +kernel
theorem dX12_answer_158 : decode cX12_answer 158 = .ok (.laload, 1) := by decide +kernel
theorem dX12_answer_159 : decode cX12_answer 159 = .ok (.lreturn, 1) := by decide +kernel
theorem dX12_thingOf_0 : decode cX12_thingOf 0 = .ok (.iconst 0, 1) := by decide +kernel
theorem dX12_thingOf_1 : decode cX12_thingOf 1 = .ok (.istore_n 2, 1) := by decide +kernel
theorem dX12_thingOf_2 : decode cX12_thingOf 2 = .ok (.iload_n 1, 1) := by decide +kernel
theorem dX12_thingOf_3 : decode cX12_thingOf 3 = .ok (.aload_n 0, 1) := by decide +kernel
theorem dX12_thingOf_4 : decode cX12_thingOf 4 = .ok (.getfield 13, 3) := by decide +kernel
theorem dX12_thingOf_7 : decode cX12_thingOf 7 = .ok (.iload_n 2, 1) := by decide +kernel
theorem dX12_thingOf_8 : decode cX12_thingOf 8 = .ok (.iconst 1, 1) := by decide +kernel
theorem dX12_thingOf_9 : decode cX12_thingOf 9 = .ok (.iadd, 1) := by decide +kernel
theorem dX12_thingOf_10 : decode cX12_thingOf 10 = .ok (.iaload, 1) := by decide +kernel
theorem dX12_thingOf_11 : decode cX12_thingOf 11 = .ok (.if_icmp .lt 9, 3) := by decide +kernel
theorem dX12_thingOf_14 : decode cX12_thingOf 14 = .ok (.iinc 2 1, 3) := by decide +kernel
theorem dX12_thingOf_17 : decode cX12_thingOf 17 = .ok (.goto (-15), 3) := by decide +kernel
theorem dX12_thingOf_20 : decode cX12_thingOf 20 = .ok (.iload_n 2, 1) := by decide +kernel
theorem dX12_thingOf_21 : decode cX12_thingOf 21 = .ok (.ireturn, 1) := by decide +kernel
theorem dX12_isBare_0 : decode cX12_isBare 0 = .ok (.aload_n 0, 1) := by decide +kernel
theorem dX12_isBare_1 : decode cX12_isBare 1 = .ok (.getfield 9, 3) := by decide +kernel
theorem dX12_isBare_4 : decode cX12_isBare 4 = .ok (.bipush 8, 2) := by decide +kernel
theorem dX12_isBare_6 : decode cX12_isBare 6 = .ok (.iaload, 1) := by decide +kernel
theorem dX12_isBare_7 : decode cX12_isBare 7 = .ok (.iload_n 1, 1) := by decide +kernel
theorem dX12_isBare_8 : decode cX12_isBare 8 = .ok (.invokestatic 382, 3) := by decide +kernel
theorem dX12_isBare_11 : decode cX12_isBare 11 = .ok (.ireturn, 1) := by decide +kernel
theorem dX12_barely_0 : decode cX12_barely 0 = .ok (.iconst 0, 1) := by decide +kernel
theorem dX12_barely_1 : decode cX12_barely 1 = .ok (.istore_n 2, 1) := by decide +kernel
theorem dX12_barely_2 : decode cX12_barely 2 = .ok (.aload_n 0, 1) := by decide +kernel
theorem dX12_barely_3 : decode cX12_barely 3 = .ok (.getfield 13, 3) := by decide +kernel
theorem dX12_barely_6 : decode cX12_barely 6 = .ok (.iload_n 1, 1) := by decide +kernel
theorem dX12_barely_7 : decode cX12_barely 7 = .ok (.iaload, 1) := by decide +kernel
theorem dX12_barely_8 : decode cX12_barely 8 = .ok (.istore_n 3, 1) := by decide +kernel
theorem dX12_barely_9 : decode cX12_barely 9 = .ok (.iload_n 3, 1) := by decide +kernel
theorem dX12_barely_10 : decode cX12_barely 10 = .ok (.aload_n 0, 1) := by decide +kernel
theorem dX12_barely_11 : decode cX12_barely 11 = .ok (.getfield 13, 3) := by decide +kernel
theorem dX12_barely_14 : decode cX12_barely 14 = .ok (.iload_n 1, 1) := by decide +kernel
theorem dX12_barely_15 : decode cX12_barely 15 = .ok (.iconst 1, 1) := by decide +kernel
theorem dX12_barely_16 : decode cX12_barely 16 = .ok (.iadd, 1) := by decide +kernel
theorem dX12_barely_17 : decode cX12_barely 17 = .ok (.iaload, 1) := by decide +kernel
theorem dX12_barely_18 : decode cX12_barely 18 = .ok (.if_icmp .ge 25, 3) := by decide +kernel
theorem dX12_barely_21 : decode cX12_barely 21 = .ok (.iload_n 2, 1) := by decide +kernel
theorem dX12_barely_22 : decode cX12_barely 22 = .ok (.aload_n 0, 1) := by decide +kernel
theorem dX12_barely_23 : decode cX12_barely 23 = .ok (.getfield 31, 3) := by decide +kernel
theorem dX12_barely_26 : decode cX12_barely 26 = .ok (.iload_n 3, 1) := by decide +kernel
theorem dX12_barely_27 : decode cX12_barely 27 = .ok (.iaload, 1) := by decide +kernel
theorem dX12_barely_28 : decode cX12_barely 28 = .ok (.iadd, 1) := by decide +kernel
theorem dX12_barely_29 : decode cX12_barely 29 = .ok (.istore_n 2, 1) := by decide +kernel
theorem dX12_barely_30 : decode cX12_barely 30 = .ok (.aload_n 0, 1) := by decide +kernel
theorem dX12_barely_31 : decode cX12_barely 31 = .ok (.getfield 31, 3) := by decide +kernel
theorem dX12_barely_34 : decode cX12_barely 34 = .ok (.iload_n 3, 1) := by decide +kernel
theorem dX12_barely_35 : decode cX12_barely 35 = .ok (.iconst 0, 1) := by decide +kernel
theorem dX12_barely_36 : decode cX12_barely 36 = .ok (.iastore, 1) := by decide +kernel
theorem dX12_barely_37 : decode cX12_barely 37 = .ok (.iinc 3 1, 3) := by decide +kernel
theorem dX12_barely_40 : decode cX12_barely 40 = .ok (.goto (-31), 3) := by decide +kernel
theorem dX12_barely_43 : decode cX12_barely 43 = .ok (.iload_n 2, 1) := by decide +kernel
theorem dX12_barely_44 : decode cX12_barely 44 = .ok (.ireturn, 1) := by decide +kernel
theorem dX12_isWetAt_0 : decode cX12_isWetAt 0 = .ok (.aload_n 0, 1) := by decide +kernel
theorem dX12_isWetAt_1 : decode cX12_isWetAt 1 = .ok (.getfield 37, 3) := by decide +kernel
theorem dX12_isWetAt_4 : decode cX12_isWetAt 4 = .ok (.iload_n 1, 1) := by decide +kernel
theorem dX12_isWetAt_5 : decode cX12_isWetAt 5 = .ok (.iaload, 1) := by decide +kernel
theorem dX12_isWetAt_6 : decode cX12_isWetAt 6 = .ok (.iconst (-1), 1) := by decide +kernel
theorem dX12_isWetAt_7 : decode cX12_isWetAt 7 = .ok (.if_icmp .eq 24, 3) := by decide +kernel
theorem dX12_isWetAt_10 : decode cX12_isWetAt 10 = .ok (.iload_n 2, 1) := by decide +kernel
theorem dX12_isWetAt_11 : decode cX12_isWetAt 11 = .ok (.aload_n 0, 1) := by decide +kernel
theorem dX12_isWetAt_12 : decode cX12_isWetAt 12 = .ok (.getfield 37, 3) := by decide +kernel
theorem dX12_isWetAt_15 : decode cX12_isWetAt 15 = .ok (.iload_n 1, 1) := by decide +kernel
theorem dX12_isWetAt_16 : decode cX12_isWetAt 16 = .ok (.iaload, 1) := by decide +kernel
theorem dX12_isWetAt_17 : decode cX12_isWetAt 17 = .ok (.aload_n 0, 1) := by decide +kernel
theorem dX12_isWetAt_18 : decode cX12_isWetAt 18 = .ok (.getfield 9, 3) := by decide +kernel
theorem dX12_isWetAt_21 : decode cX12_isWetAt 21 = .ok (.iconst 0, 1) := by decide +kernel
theorem dX12_isWetAt_22 : decode cX12_isWetAt 22 = .ok (.iaload, 1) := by decide +kernel
theorem dX12_isWetAt_23 : decode cX12_isWetAt 23 = .ok (.iadd, 1) := by decide +kernel
theorem dX12_isWetAt_24 : decode cX12_isWetAt 24 = .ok (.if_icmp .ge 7, 3) := by decide +kernel
theorem dX12_isWetAt_27 : decode cX12_isWetAt 27 = .ok (.iconst 1, 1) := by decide +kernel
theorem dX12_isWetAt_28 : decode cX12_isWetAt 28 = .ok (.goto 4, 3) := by decide +kernel
theorem dX12_isWetAt_31 : decode cX12_isWetAt 31 = .ok (.iconst 0, 1) := by decide +kernel
theorem dX12_isWetAt_32 : decode cX12_isWetAt 32 = .ok (.ireturn, 1) := by decide +kernel
theorem dX12_isTopWet_0 : decode cX12_isTopWet 0 = .ok (.aload_n 0, 1) := by decide +kernel
theorem dX12_isTopWet_1 : decode cX12_isTopWet 1 = .ok (.getfield 31, 3) := by decide +kernel
theorem dX12_isTopWet_4 : decode cX12_isTopWet 4 = .ok (.iload_n 1, 1) := by decide +kernel
theorem dX12_isTopWet_5 : decode cX12_isTopWet 5 = .ok (.iaload, 1) := by decide +kernel
theorem dX12_isTopWet_6 : decode cX12_isTopWet 6 = .ok (.ifCond .le 33, 3) := by decide +kernel
theorem dX12_isTopWet_9 : decode cX12_isTopWet 9 = .ok (.aload_n 0, 1) := by decide +kernel
theorem dX12_isTopWet_10 : decode cX12_isTopWet 10 = .ok (.iconst 5, 1) := by decide +kernel
theorem dX12_isTopWet_11 : decode cX12_isTopWet 11 = .ok (.iload_n 1, 1) := by decide +kernel
theorem dX12_isTopWet_12 : decode cX12_isTopWet 12 = .ok (.imul, 1) := by decide +kernel
theorem dX12_isTopWet_13 : decode cX12_isTopWet 13 = .ok (.aload_n 0, 1) := by decide +kernel
theorem dX12_isTopWet_14 : decode cX12_isTopWet 14 = .ok (.getfield 31, 3) := by decide +kernel
theorem dX12_isTopWet_17 : decode cX12_isTopWet 17 = .ok (.iload_n 1, 1) := by decide +kernel
theorem dX12_isTopWet_18 : decode cX12_isTopWet 18 = .ok (.iaload, 1) := by decide +kernel
theorem dX12_isTopWet_19 : decode cX12_isTopWet 19 = .ok (.iadd, 1) := by decide +kernel
theorem dX12_isTopWet_20 : decode cX12_isTopWet 20 = .ok (.iconst 1, 1) := by decide +kernel
theorem dX12_isTopWet_21 : decode cX12_isTopWet 21 = .ok (.isub, 1) := by decide +kernel
theorem dX12_isTopWet_22 : decode cX12_isTopWet 22 = .ok (.aload_n 0, 1) := by decide +kernel
theorem dX12_isTopWet_23 : decode cX12_isTopWet 23 = .ok (.getfield 9, 3) := by decide +kernel
theorem dX12_isTopWet_26 : decode cX12_isTopWet 26 = .ok (.bipush 9, 2) := by decide +kernel
theorem dX12_isTopWet_28 : decode cX12_isTopWet 28 = .ok (.iaload, 1) := by decide +kernel
theorem dX12_isTopWet_29 : decode cX12_isTopWet 29 = .ok (.invokevirtual 385, 3) := by decide +kernel
theorem dX12_isTopWet_32 : decode cX12_isTopWet 32 = .ok (.ifCond .eq 7, 3) := by decide +kernel
theorem dX12_isTopWet_35 : decode cX12_isTopWet 35 = .ok (.iconst 1, 1) := by decide +kernel
theorem dX12_isTopWet_36 : decode cX12_isTopWet 36 = .ok (.goto 4, 3) := by decide +kernel
theorem dX12_isTopWet_39 : decode cX12_isTopWet 39 = .ok (.iconst 0, 1) := by decide +kernel
theorem dX12_isTopWet_40 : decode cX12_isTopWet 40 = .ok (.ireturn, 1) := by decide +kernel
theorem dX12_topOf_0 : decode cX12_topOf 0 = .ok (.aload_n 0, 1) := by decide +kernel
theorem dX12_topOf_1 : decode cX12_topOf 1 = .ok (.getfield 31, 3) := by decide +kernel
theorem dX12_topOf_4 : decode cX12_topOf 4 = .ok (.iload_n 1, 1) := by decide +kernel
theorem dX12_topOf_5 : decode cX12_topOf 5 = .ok (.iaload, 1) := by decide +kernel
theorem dX12_topOf_6 : decode cX12_topOf 6 = .ok (.ifCond .ne 7, 3) := by decide +kernel
theorem dX12_topOf_9 : decode cX12_topOf 9 = .ok (.iconst (-1), 1) := by decide +kernel
theorem dX12_topOf_10 : decode cX12_topOf 10 = .ok (.goto 20, 3) := by decide +kernel
theorem dX12_topOf_13 : decode cX12_topOf 13 = .ok (.aload_n 0, 1) := by decide +kernel
theorem dX12_topOf_14 : decode cX12_topOf 14 = .ok (.getfield 34, 3) := by decide +kernel
theorem dX12_topOf_17 : decode cX12_topOf 17 = .ok (.iconst 5, 1) := by decide +kernel
theorem dX12_topOf_18 : decode cX12_topOf 18 = .ok (.iload_n 1, 1) := by decide +kernel
theorem dX12_topOf_19 : decode cX12_topOf 19 = .ok (.imul, 1) := by decide +kernel
theorem dX12_topOf_20 : decode cX12_topOf 20 = .ok (.aload_n 0, 1) := by decide +kernel
theorem dX12_topOf_21 : decode cX12_topOf 21 = .ok (.getfield 31, 3) := by decide +kernel
theorem dX12_topOf_24 : decode cX12_topOf 24 = .ok (.iload_n 1, 1) := by decide +kernel
theorem dX12_topOf_25 : decode cX12_topOf 25 = .ok (.iaload, 1) := by decide +kernel
theorem dX12_topOf_26 : decode cX12_topOf 26 = .ok (.iadd, 1) := by decide +kernel
theorem dX12_topOf_27 : decode cX12_topOf 27 = .ok (.iconst 1, 1) := by decide +kernel
theorem dX12_topOf_28 : decode cX12_topOf 28 = .ok (.isub, 1) := by decide +kernel
theorem dX12_topOf_29 : decode cX12_topOf 29 = .ok (.iaload, 1) := by decide +kernel
theorem dX12_topOf_30 : decode cX12_topOf 30 = .ok (.ireturn, 1) := by decide +kernel
theorem dX12_ownerBy_0 : decode cX12_ownerBy 0 = .ok (.iconst 5, 1) := by decide +kernel
theorem dX12_ownerBy_1 : decode cX12_ownerBy 1 = .ok (.iload_n 1, 1) := by decide +kernel
theorem dX12_ownerBy_2 : decode cX12_ownerBy 2 = .ok (.imul, 1) := by decide +kernel
theorem dX12_ownerBy_3 : decode cX12_ownerBy 3 = .ok (.iload_n 2, 1) := by decide +kernel
theorem dX12_ownerBy_4 : decode cX12_ownerBy 4 = .ok (.iadd, 1) := by decide +kernel
theorem dX12_ownerBy_5 : decode cX12_ownerBy 5 = .ok (.iconst 1, 1) := by decide +kernel
theorem dX12_ownerBy_6 : decode cX12_ownerBy 6 = .ok (.isub, 1) := by decide +kernel
theorem dX12_ownerBy_7 : decode cX12_ownerBy 7 = .ok (.istore 4, 2) := by decide +kernel
theorem dX12_ownerBy_9 : decode cX12_ownerBy 9 = .ok (.iload 4, 2) := by decide +kernel
theorem dX12_ownerBy_11 : decode cX12_ownerBy 11 = .ok (.iconst 5, 1) := by decide +kernel
theorem dX12_ownerBy_12 : decode cX12_ownerBy 12 = .ok (.iload_n 1, 1) := by decide +kernel
theorem dX12_ownerBy_13 : decode cX12_ownerBy 13 = .ok (.imul, 1) := by decide +kernel
theorem dX12_ownerBy_14 : decode cX12_ownerBy 14 = .ok (.if_icmp .lt 40, 3) := by decide +kernel
theorem dX12_ownerBy_17 : decode cX12_ownerBy 17 = .ok (.aload_n 0, 1) := by decide +kernel
theorem dX12_ownerBy_18 : decode cX12_ownerBy 18 = .ok (.iload 4, 2) := by decide +kernel
theorem dX12_ownerBy_20 : decode cX12_ownerBy 20 = .ok (.iload_n 3, 1) := by decide +kernel
theorem dX12_ownerBy_21 : decode cX12_ownerBy 21 = .ok (.invokevirtual 385, 3) := by decide +kernel
theorem dX12_ownerBy_24 : decode cX12_ownerBy 24 = .ok (.ifCond .ne 11, 3) := by decide +kernel
theorem dX12_ownerBy_27 : decode cX12_ownerBy 27 = .ok (.aload_n 0, 1) := by decide +kernel
theorem dX12_ownerBy_28 : decode cX12_ownerBy 28 = .ok (.getfield 34, 3) := by decide +kernel
theorem dX12_ownerBy_31 : decode cX12_ownerBy 31 = .ok (.iload 4, 2) := by decide +kernel
theorem dX12_ownerBy_33 : decode cX12_ownerBy 33 = .ok (.iaload, 1) := by decide +kernel
theorem dX12_ownerBy_34 : decode cX12_ownerBy 34 = .ok (.ireturn, 1) := by decide +kernel
theorem dX12_ownerBy_35 : decode cX12_ownerBy 35 = .ok (.aload_n 0, 1) := by decide +kernel
theorem dX12_ownerBy_36 : decode cX12_ownerBy 36 = .ok (.getfield 9, 3) := by decide +kernel
theorem dX12_ownerBy_39 : decode cX12_ownerBy 39 = .ok (.bipush 6, 2) := by decide +kernel
theorem dX12_ownerBy_41 : decode cX12_ownerBy 41 = .ok (.iaload, 1) := by decide +kernel
theorem dX12_ownerBy_42 : decode cX12_ownerBy 42 = .ok (.iconst 1, 1) := by decide +kernel
theorem dX12_ownerBy_43 : decode cX12_ownerBy 43 = .ok (.if_icmp .ne 5, 3) := by decide +kernel
theorem dX12_ownerBy_46 : decode cX12_ownerBy 46 = .ok (.iconst (-1), 1) := by decide +kernel
theorem dX12_ownerBy_47 : decode cX12_ownerBy 47 = .ok (.ireturn, 1) := by decide +kernel
theorem dX12_ownerBy_48 : decode cX12_ownerBy 48 = .ok (.iinc 4 (-1), 3) := by decide +kernel
theorem dX12_ownerBy_51 : decode cX12_ownerBy 51 = .ok (.goto (-42), 3) := by decide +kernel
theorem dX12_ownerBy_54 : decode cX12_ownerBy 54 = .ok (.iconst (-1), 1) := by decide +kernel
theorem dX12_ownerBy_55 : decode cX12_ownerBy 55 = .ok (.ireturn, 1) := by decide +kernel
theorem dX12_ownerOf_0 : decode cX12_ownerOf 0 = .ok (.aload_n 0, 1) := by decide +kernel
theorem dX12_ownerOf_1 : decode cX12_ownerOf 1 = .ok (.iload_n 1, 1) := by decide +kernel
theorem dX12_ownerOf_2 : decode cX12_ownerOf 2 = .ok (.aload_n 0, 1) := by decide +kernel
theorem dX12_ownerOf_3 : decode cX12_ownerOf 3 = .ok (.getfield 31, 3) := by decide +kernel
theorem dX12_ownerOf_6 : decode cX12_ownerOf 6 = .ok (.iload_n 1, 1) := by decide +kernel
theorem dX12_ownerOf_7 : decode cX12_ownerOf 7 = .ok (.iaload, 1) := by decide +kernel
theorem dX12_ownerOf_8 : decode cX12_ownerOf 8 = .ok (.aload_n 0, 1) := by decide +kernel
theorem dX12_ownerOf_9 : decode cX12_ownerOf 9 = .ok (.getfield 9, 3) := by decide +kernel
theorem dX12_ownerOf_12 : decode cX12_ownerOf 12 = .ok (.bipush 9, 2) := by decide +kernel
theorem dX12_ownerOf_14 : decode cX12_ownerOf 14 = .ok (.iaload, 1) := by decide +kernel
theorem dX12_ownerOf_15 : decode cX12_ownerOf 15 = .ok (.invokevirtual 388, 3) := by decide +kernel
theorem dX12_ownerOf_18 : decode cX12_ownerOf 18 = .ok (.ireturn, 1) := by decide +kernel
theorem dX12_ownerByCells_0 : decode cX12_ownerByCells 0 = .ok (.iconst (-1), 1) := by decide +kernel
theorem dX12_ownerByCells_1 : decode cX12_ownerByCells 1 = .ok (.istore_n 3, 1) := by decide +kernel
theorem dX12_ownerByCells_2 : decode cX12_ownerByCells 2 = .ok (.iconst 0, 1) := by decide +kernel
theorem dX12_ownerByCells_3 : decode cX12_ownerByCells 3 = .ok (.istore 4, 2) := by decide +kernel
theorem dX12_ownerByCells_5 : decode cX12_ownerByCells 5 = .ok (.iconst 0, 1) := by decide +kernel
theorem dX12_ownerByCells_6 : decode cX12_ownerByCells 6 = .ok (.istore 5, 2) := by decide +kernel
theorem dX12_ownerByCells_8 : decode cX12_ownerByCells 8 = .ok (.iload 5, 2) := by decide +kernel
theorem dX12_ownerByCells_10 : decode cX12_ownerByCells 10 = .ok (.aload_n 0, 1) := by decide +kernel
theorem dX12_ownerByCells_11 : decode cX12_ownerByCells 11 = .ok (.getfield 9, 3) := by decide +kernel
theorem dX12_ownerByCells_14 : decode cX12_ownerByCells 14 = .ok (.iconst 5, 1) := by decide +kernel
theorem dX12_ownerByCells_15 : decode cX12_ownerByCells 15 = .ok (.iaload, 1) := by decide +kernel
theorem dX12_ownerByCells_16 : decode cX12_ownerByCells 16 = .ok (.if_icmp .ge 49, 3) := by decide +kernel
theorem dX12_ownerByCells_19 : decode cX12_ownerByCells 19 = .ok (.aload_n 0, 1) := by decide +kernel
theorem dX12_ownerByCells_20 : decode cX12_ownerByCells 20 = .ok (.getfield 124, 3) := by decide +kernel
theorem dX12_ownerByCells_23 : decode cX12_ownerByCells 23 = .ok (.iload 5, 2) := by decide +kernel
theorem dX12_ownerByCells_25 : decode cX12_ownerByCells 25 = .ok (.iaload, 1) := by decide +kernel
theorem dX12_ownerByCells_26 : decode cX12_ownerByCells 26 = .ok (.iload 4, 2) := by decide +kernel
theorem dX12_ownerByCells_28 : decode cX12_ownerByCells 28 = .ok (.if_icmp .lt 31, 3) := by decide +kernel
theorem dX12_ownerByCells_31 : decode cX12_ownerByCells 31 = .ok (.aload_n 0, 1) := by decide +kernel
theorem dX12_ownerByCells_32 : decode cX12_ownerByCells 32 = .ok (.getfield 124, 3) := by decide +kernel
theorem dX12_ownerByCells_35 : decode cX12_ownerByCells 35 = .ok (.iload 5, 2) := by decide +kernel
theorem dX12_ownerByCells_37 : decode cX12_ownerByCells 37 = .ok (.iaload, 1) := by decide +kernel
theorem dX12_ownerByCells_38 : decode cX12_ownerByCells 38 = .ok (.iload 4, 2) := by decide +kernel
theorem dX12_ownerByCells_40 : decode cX12_ownerByCells 40 = .ok (.if_icmp .le 8, 3) := by decide +kernel
theorem dX12_ownerByCells_43 : decode cX12_ownerByCells 43 = .ok (.iload 5, 2) := by decide +kernel
theorem dX12_ownerByCells_45 : decode cX12_ownerByCells 45 = .ok (.goto 4, 3) := by decide +kernel
theorem dX12_ownerByCells_48 : decode cX12_ownerByCells 48 = .ok (.iconst (-1), 1) := by decide +kernel
theorem dX12_ownerByCells_49 : decode cX12_ownerByCells 49 = .ok (.istore_n 3, 1) := by decide +kernel
theorem dX12_ownerByCells_50 : decode cX12_ownerByCells 50 = .ok (.aload_n 0, 1) := by decide +kernel
theorem dX12_ownerByCells_51 : decode cX12_ownerByCells 51 = .ok (.getfield 124, 3) := by decide +kernel
theorem dX12_ownerByCells_54 : decode cX12_ownerByCells 54 = .ok (.iload 5, 2) := by decide +kernel
theorem dX12_ownerByCells_56 : decode cX12_ownerByCells 56 = .ok (.iaload, 1) := by decide +kernel
theorem dX12_ownerByCells_57 : decode cX12_ownerByCells 57 = .ok (.istore 4, 2) := by decide +kernel
theorem dX12_ownerByCells_59 : decode cX12_ownerByCells 59 = .ok (.iinc 5 1, 3) := by decide +kernel
theorem dX12_ownerByCells_62 : decode cX12_ownerByCells 62 = .ok (.goto (-54), 3) := by decide +kernel
theorem dX12_ownerByCells_65 : decode cX12_ownerByCells 65 = .ok (.iload_n 3, 1) := by decide +kernel
theorem dX12_ownerByCells_66 : decode cX12_ownerByCells 66 = .ok (.iconst (-1), 1) := by decide +kernel
theorem dX12_ownerByCells_67 : decode cX12_ownerByCells 67 = .ok (.if_icmp .eq 18, 3) := by decide +kernel
theorem dX12_ownerByCells_70 : decode cX12_ownerByCells 70 = .ok (.bipush 100, 2) := by decide +kernel
theorem dX12_ownerByCells_72 : decode cX12_ownerByCells 72 = .ok (.iload 4, 2) := by decide +kernel
theorem dX12_ownerByCells_74 : decode cX12_ownerByCells 74 = .ok (.imul, 1) := by decide +kernel
theorem dX12_ownerByCells_75 : decode cX12_ownerByCells 75 = .ok (.iload_n 2, 1) := by decide +kernel
theorem dX12_ownerByCells_76 : decode cX12_ownerByCells 76 = .ok (.iload_n 1, 1) := by decide +kernel
theorem dX12_ownerByCells_77 : decode cX12_ownerByCells 77 = .ok (.imul, 1) := by decide +kernel
theorem dX12_ownerByCells_78 : decode cX12_ownerByCells 78 = .ok (.if_icmp .lt 7, 3) := by decide +kernel
theorem dX12_ownerByCells_81 : decode cX12_ownerByCells 81 = .ok (.iload_n 3, 1) := by decide +kernel
theorem dX12_ownerByCells_82 : decode cX12_ownerByCells 82 = .ok (.goto 4, 3) := by decide +kernel
theorem dX12_ownerByCells_85 : decode cX12_ownerByCells 85 = .ok (.iconst (-1), 1) := by decide +kernel
theorem dX12_ownerByCells_86 : decode cX12_ownerByCells 86 = .ok (.ireturn, 1) := by decide +kernel
theorem dX12_countsCells_0 : decode cX12_countsCells 0 = .ok (.iconst 0, 1) := by decide +kernel
theorem dX12_countsCells_1 : decode cX12_countsCells 1 = .ok (.istore 4, 2) := by decide +kernel
theorem dX12_countsCells_3 : decode cX12_countsCells 3 = .ok (.iload 4, 2) := by decide +kernel
theorem dX12_countsCells_5 : decode cX12_countsCells 5 = .ok (.iconst 4, 1) := by decide +kernel
theorem dX12_countsCells_6 : decode cX12_countsCells 6 = .ok (.if_icmp .ge 17, 3) := by decide +kernel
theorem dX12_countsCells_9 : decode cX12_countsCells 9 = .ok (.aload_n 0, 1) := by decide +kernel
theorem dX12_countsCells_10 : decode cX12_countsCells 10 = .ok (.getfield 124, 3) := by decide +kernel
theorem dX12_countsCells_13 : decode cX12_countsCells 13 = .ok (.iload 4, 2) := by decide +kernel
theorem dX12_countsCells_15 : decode cX12_countsCells 15 = .ok (.iconst 0, 1) := by decide +kernel
theorem dX12_countsCells_16 : decode cX12_countsCells 16 = .ok (.iastore, 1) := by decide +kernel
theorem dX12_countsCells_17 : decode cX12_countsCells 17 = .ok (.iinc 4 1, 3) := by decide +kernel
theorem dX12_countsCells_20 : decode cX12_countsCells 20 = .ok (.goto (-17), 3) := by decide +kernel
theorem dX12_countsCells_23 : decode cX12_countsCells 23 = .ok (.aload_n 0, 1) := by decide +kernel
theorem dX12_countsCells_24 : decode cX12_countsCells 24 = .ok (.getfield 13, 3) := by decide +kernel
theorem dX12_countsCells_27 : decode cX12_countsCells 27 = .ok (.iload_n 1, 1) := by decide +kernel
theorem dX12_countsCells_28 : decode cX12_countsCells 28 = .ok (.iaload, 1) := by decide +kernel
theorem dX12_countsCells_29 : decode cX12_countsCells 29 = .ok (.istore 4, 2) := by decide +kernel
theorem dX12_countsCells_31 : decode cX12_countsCells 31 = .ok (.iload 4, 2) := by decide +kernel
theorem dX12_countsCells_33 : decode cX12_countsCells 33 = .ok (.aload_n 0, 1) := by decide +kernel
theorem dX12_countsCells_34 : decode cX12_countsCells 34 = .ok (.getfield 13, 3) := by decide +kernel
theorem dX12_countsCells_37 : decode cX12_countsCells 37 = .ok (.iload_n 1, 1) := by decide +kernel
theorem dX12_countsCells_38 : decode cX12_countsCells 38 = .ok (.iconst 1, 1) := by decide +kernel
theorem dX12_countsCells_39 : decode cX12_countsCells 39 = .ok (.iadd, 1) := by decide +kernel
theorem dX12_countsCells_40 : decode cX12_countsCells 40 = .ok (.iaload, 1) := by decide +kernel
theorem dX12_countsCells_41 : decode cX12_countsCells 41 = .ok (.if_icmp .ge 79, 3) := by decide +kernel
theorem dX12_countsCells_44 : decode cX12_countsCells 44 = .ok (.aload_n 0, 1) := by decide +kernel
theorem dX12_countsCells_45 : decode cX12_countsCells 45 = .ok (.getfield 31, 3) := by decide +kernel
theorem dX12_countsCells_48 : decode cX12_countsCells 48 = .ok (.iload 4, 2) := by decide +kernel
theorem dX12_countsCells_50 : decode cX12_countsCells 50 = .ok (.iaload, 1) := by decide +kernel
theorem dX12_countsCells_51 : decode cX12_countsCells 51 = .ok (.istore 5, 2) := by decide +kernel
theorem dX12_countsCells_53 : decode cX12_countsCells 53 = .ok (.iload_n 3, 1) := by decide +kernel
theorem dX12_countsCells_54 : decode cX12_countsCells 54 = .ok (.ifCond .eq 32, 3) := by decide +kernel
theorem dX12_countsCells_57 : decode cX12_countsCells 57 = .ok (.iload 5, 2) := by decide +kernel
theorem dX12_countsCells_59 : decode cX12_countsCells 59 = .ok (.ifCond .le 27, 3) := by decide +kernel
theorem dX12_countsCells_62 : decode cX12_countsCells 62 = .ok (.aload_n 0, 1) := by decide +kernel
theorem dX12_countsCells_63 : decode cX12_countsCells 63 = .ok (.getfield 37, 3) := by decide +kernel
theorem dX12_countsCells_66 : decode cX12_countsCells 66 = .ok (.iconst 5, 1) := by decide +kernel
theorem dX12_countsCells_67 : decode cX12_countsCells 67 = .ok (.iload 4, 2) := by decide +kernel
theorem dX12_countsCells_69 : decode cX12_countsCells 69 = .ok (.imul, 1) := by decide +kernel
theorem dX12_countsCells_70 : decode cX12_countsCells 70 = .ok (.iload 5, 2) := by decide +kernel
theorem dX12_countsCells_72 : decode cX12_countsCells 72 = .ok (.iadd, 1) := by decide +kernel
theorem dX12_countsCells_73 : decode cX12_countsCells 73 = .ok (.iconst 1, 1) := by decide +kernel
theorem dX12_countsCells_74 : decode cX12_countsCells 74 = .ok (.isub, 1) := by decide +kernel
theorem dX12_countsCells_75 : decode cX12_countsCells 75 = .ok (.iaload, 1) := by decide +kernel
theorem dX12_countsCells_76 : decode cX12_countsCells 76 = .ok (.iload_n 2, 1) := by decide +kernel
theorem dX12_countsCells_77 : decode cX12_countsCells 77 = .ok (.if_icmp .lt 9, 3) := by decide +kernel
theorem dX12_countsCells_80 : decode cX12_countsCells 80 = .ok (.iinc 5 (-1), 3) := by decide +kernel
theorem dX12_countsCells_83 : decode cX12_countsCells 83 = .ok (.goto (-30), 3) := by decide +kernel
theorem dX12_countsCells_86 : decode cX12_countsCells 86 = .ok (.aload_n 0, 1) := by decide +kernel
theorem dX12_countsCells_87 : decode cX12_countsCells 87 = .ok (.iload 4, 2) := by decide +kernel
theorem dX12_countsCells_89 : decode cX12_countsCells 89 = .ok (.iload 5, 2) := by decide +kernel
theorem dX12_countsCells_91 : decode cX12_countsCells 91 = .ok (.iload_n 2, 1) := by decide +kernel
theorem dX12_countsCells_92 : decode cX12_countsCells 92 = .ok (.invokevirtual 388, 3) := by decide +kernel
theorem dX12_countsCells_95 : decode cX12_countsCells 95 = .ok (.istore 6, 2) := by decide +kernel
theorem dX12_countsCells_97 : decode cX12_countsCells 97 = .ok (.iload 6, 2) := by decide +kernel
theorem dX12_countsCells_99 : decode cX12_countsCells 99 = .ok (.iconst (-1), 1) := by decide +kernel
theorem dX12_countsCells_100 : decode cX12_countsCells 100 = .ok (.if_icmp .eq 14, 3) := by decide +kernel
theorem dX12_countsCells_103 : decode cX12_countsCells 103 = .ok (.aload_n 0, 1) := by decide +kernel
theorem dX12_countsCells_104 : decode cX12_countsCells 104 = .ok (.getfield 124, 3) := by decide +kernel
theorem dX12_countsCells_107 : decode cX12_countsCells 107 = .ok (.iload 6, 2) := by decide +kernel
theorem dX12_countsCells_109 : decode cX12_countsCells 109 = .ok (.dup2, 1) := by decide +kernel
theorem dX12_countsCells_110 : decode cX12_countsCells 110 = .ok (.iaload, 1) := by decide +kernel
theorem dX12_countsCells_111 : decode cX12_countsCells 111 = .ok (.iconst 1, 1) := by decide +kernel
theorem dX12_countsCells_112 : decode cX12_countsCells 112 = .ok (.iadd, 1) := by decide +kernel
theorem dX12_countsCells_113 : decode cX12_countsCells 113 = .ok (.iastore, 1) := by decide +kernel
theorem dX12_countsCells_114 : decode cX12_countsCells 114 = .ok (.iinc 4 1, 3) := by decide +kernel
theorem dX12_countsCells_117 : decode cX12_countsCells 117 = .ok (.goto (-86), 3) := by decide +kernel
theorem dX12_countsCells_120 : decode cX12_countsCells 120 = .ok (.return_, 1) := by decide +kernel
theorem dX12_cellsIn_0 : decode cX12_cellsIn 0 = .ok (.aload_n 0, 1) := by decide +kernel
theorem dX12_cellsIn_1 : decode cX12_cellsIn 1 = .ok (.getfield 13, 3) := by decide +kernel
theorem dX12_cellsIn_4 : decode cX12_cellsIn 4 = .ok (.iload_n 1, 1) := by decide +kernel
theorem dX12_cellsIn_5 : decode cX12_cellsIn 5 = .ok (.iconst 1, 1) := by decide +kernel
theorem dX12_cellsIn_6 : decode cX12_cellsIn 6 = .ok (.iadd, 1) := by decide +kernel
theorem dX12_cellsIn_7 : decode cX12_cellsIn 7 = .ok (.iaload, 1) := by decide +kernel
theorem dX12_cellsIn_8 : decode cX12_cellsIn 8 = .ok (.aload_n 0, 1) := by decide +kernel
theorem dX12_cellsIn_9 : decode cX12_cellsIn 9 = .ok (.getfield 13, 3) := by decide +kernel
theorem dX12_cellsIn_12 : decode cX12_cellsIn 12 = .ok (.iload_n 1, 1) := by decide +kernel
theorem dX12_cellsIn_13 : decode cX12_cellsIn 13 = .ok (.iaload, 1) := by decide +kernel
theorem dX12_cellsIn_14 : decode cX12_cellsIn 14 = .ok (.isub, 1) := by decide +kernel
theorem dX12_cellsIn_15 : decode cX12_cellsIn 15 = .ok (.ireturn, 1) := by decide +kernel
theorem dX12_thingOwner_0 : decode cX12_thingOwner 0 = .ok (.aload_n 0, 1) := by decide +kernel
theorem dX12_thingOwner_1 : decode cX12_thingOwner 1 = .ok (.iload_n 1, 1) := by decide +kernel
theorem dX12_thingOwner_2 : decode cX12_thingOwner 2 = .ok (.invokevirtual 336, 3) := by decide +kernel
theorem dX12_thingOwner_5 : decode cX12_thingOwner 5 = .ok (.ifCond .eq 5, 3) := by decide +kernel
theorem dX12_thingOwner_8 : decode cX12_thingOwner 8 = .ok (.iconst (-1), 1) := by decide +kernel
theorem dX12_thingOwner_9 : decode cX12_thingOwner 9 = .ok (.ireturn, 1) := by decide +kernel
theorem dX12_thingOwner_10 : decode cX12_thingOwner 10 = .ok (.aload_n 0, 1) := by decide +kernel
theorem dX12_thingOwner_11 : decode cX12_thingOwner 11 = .ok (.iload_n 1, 1) := by decide +kernel
theorem dX12_thingOwner_12 : decode cX12_thingOwner 12 = .ok (.aload_n 0, 1) := by decide +kernel
theorem dX12_thingOwner_13 : decode cX12_thingOwner 13 = .ok (.getfield 9, 3) := by decide +kernel
theorem dX12_thingOwner_16 : decode cX12_thingOwner 16 = .ok (.bipush 9, 2) := by decide +kernel
theorem dX12_thingOwner_18 : decode cX12_thingOwner 18 = .ok (.iaload, 1) := by decide +kernel
theorem dX12_thingOwner_19 : decode cX12_thingOwner 19 = .ok (.iconst 0, 1) := by decide +kernel
theorem dX12_thingOwner_20 : decode cX12_thingOwner 20 = .ok (.invokevirtual 392, 3) := by decide +kernel
theorem dX12_thingOwner_23 : decode cX12_thingOwner 23 = .ok (.aload_n 0, 1) := by decide +kernel
theorem dX12_thingOwner_24 : decode cX12_thingOwner 24 = .ok (.aload_n 0, 1) := by decide +kernel
theorem dX12_thingOwner_25 : decode cX12_thingOwner 25 = .ok (.iload_n 1, 1) := by decide +kernel
theorem dX12_thingOwner_26 : decode cX12_thingOwner 26 = .ok (.invokevirtual 396, 3) := by decide +kernel
theorem dX12_thingOwner_29 : decode cX12_thingOwner 29 = .ok (.aload_n 0, 1) := by decide +kernel
theorem dX12_thingOwner_30 : decode cX12_thingOwner 30 = .ok (.getfield 9, 3) := by decide +kernel
theorem dX12_thingOwner_33 : decode cX12_thingOwner 33 = .ok (.iconst 1, 1) := by decide +kernel
theorem dX12_thingOwner_34 : decode cX12_thingOwner 34 = .ok (.iaload, 1) := by decide +kernel
theorem dX12_thingOwner_35 : decode cX12_thingOwner 35 = .ok (.invokevirtual 399, 3) := by decide +kernel
theorem dX12_thingOwner_38 : decode cX12_thingOwner 38 = .ok (.ireturn, 1) := by decide +kernel
theorem dX12_cellsOwned_0 : decode cX12_cellsOwned 0 = .ok (.iconst 0, 1) := by decide +kernel
theorem dX12_cellsOwned_1 : decode cX12_cellsOwned 1 = .ok (.istore_n 2, 1) := by decide +kernel
theorem dX12_cellsOwned_2 : decode cX12_cellsOwned 2 = .ok (.iconst 0, 1) := by decide +kernel
theorem dX12_cellsOwned_3 : decode cX12_cellsOwned 3 = .ok (.istore_n 3, 1) := by decide +kernel
theorem dX12_cellsOwned_4 : decode cX12_cellsOwned 4 = .ok (.iload_n 3, 1) := by decide +kernel
theorem dX12_cellsOwned_5 : decode cX12_cellsOwned 5 = .ok (.aload_n 0, 1) := by decide +kernel
theorem dX12_cellsOwned_6 : decode cX12_cellsOwned 6 = .ok (.getfield 9, 3) := by decide +kernel
theorem dX12_cellsOwned_9 : decode cX12_cellsOwned 9 = .ok (.iconst 4, 1) := by decide +kernel
theorem dX12_cellsOwned_10 : decode cX12_cellsOwned 10 = .ok (.iaload, 1) := by decide +kernel
theorem dX12_cellsOwned_11 : decode cX12_cellsOwned 11 = .ok (.if_icmp .ge 28, 3) := by decide +kernel
theorem dX12_cellsOwned_14 : decode cX12_cellsOwned 14 = .ok (.iload_n 2, 1) := by decide +kernel
theorem dX12_cellsOwned_15 : decode cX12_cellsOwned 15 = .ok (.aload_n 0, 1) := by decide +kernel
theorem dX12_cellsOwned_16 : decode cX12_cellsOwned 16 = .ok (.iload_n 3, 1) := by decide +kernel
theorem dX12_cellsOwned_17 : decode cX12_cellsOwned 17 = .ok (.invokevirtual 402, 3) := by decide +kernel
theorem dX12_cellsOwned_20 : decode cX12_cellsOwned 20 = .ok (.iload_n 1, 1) := by decide +kernel
theorem dX12_cellsOwned_21 : decode cX12_cellsOwned 21 = .ok (.if_icmp .ne 9, 3) := by decide +kernel
theorem dX12_cellsOwned_24 : decode cX12_cellsOwned 24 = .ok (.iconst 1, 1) := by decide +kernel
theorem dX12_cellsOwned_25 : decode cX12_cellsOwned 25 = .ok (.iload_n 3, 1) := by decide +kernel
theorem dX12_cellsOwned_26 : decode cX12_cellsOwned 26 = .ok (.ishl, 1) := by decide +kernel
theorem dX12_cellsOwned_27 : decode cX12_cellsOwned 27 = .ok (.goto 4, 3) := by decide +kernel
theorem dX12_cellsOwned_30 : decode cX12_cellsOwned 30 = .ok (.iconst 0, 1) := by decide +kernel
theorem dX12_cellsOwned_31 : decode cX12_cellsOwned 31 = .ok (.ior, 1) := by decide +kernel
theorem dX12_cellsOwned_32 : decode cX12_cellsOwned 32 = .ok (.istore_n 2, 1) := by decide +kernel
theorem dX12_cellsOwned_33 : decode cX12_cellsOwned 33 = .ok (.iinc 3 1, 3) := by decide +kernel
theorem dX12_cellsOwned_36 : decode cX12_cellsOwned 36 = .ok (.goto (-32), 3) := by decide +kernel
theorem dX12_cellsOwned_39 : decode cX12_cellsOwned 39 = .ok (.iload_n 2, 1) := by decide +kernel
theorem dX12_cellsOwned_40 : decode cX12_cellsOwned 40 = .ok (.ireturn, 1) := by decide +kernel
theorem dX12_cell_0 : decode cX12_cell 0 = .ok (.aload_n 0, 1) := by decide +kernel
theorem dX12_cell_1 : decode cX12_cell 1 = .ok (.iload_n 1, 1) := by decide +kernel
theorem dX12_cell_2 : decode cX12_cell 2 = .ok (.invokevirtual 405, 3) := by decide +kernel
theorem dX12_cell_5 : decode cX12_cell 5 = .ok (.ifCond .ne 6, 3) := by decide +kernel
theorem dX12_cell_8 : decode cX12_cell 8 = .ok (.bipush (-2), 2) := by decide +kernel
theorem dX12_cell_10 : decode cX12_cell 10 = .ok (.ireturn, 1) := by decide +kernel
theorem dX12_cell_11 : decode cX12_cell 11 = .ok (.iload_n 2, 1) := by decide +kernel
theorem dX12_cell_12 : decode cX12_cell 12 = .ok (.tableswitch 75 0 4 #[36, 42, 49, 55, 61], 36) := by decide +kernel
theorem dX12_cell_48 : decode cX12_cell 48 = .ok (.aload_n 0, 1) := by decide +kernel
theorem dX12_cell_49 : decode cX12_cell 49 = .ok (.iload_n 1, 1) := by decide +kernel
theorem dX12_cell_50 : decode cX12_cell 50 = .ok (.invokevirtual 408, 3) := by decide +kernel
theorem dX12_cell_53 : decode cX12_cell 53 = .ok (.ireturn, 1) := by decide +kernel
theorem dX12_cell_54 : decode cX12_cell 54 = .ok (.aload_n 0, 1) := by decide +kernel
theorem dX12_cell_55 : decode cX12_cell 55 = .ok (.getfield 31, 3) := by decide +kernel
theorem dX12_cell_58 : decode cX12_cell 58 = .ok (.iload_n 1, 1) := by decide +kernel
theorem dX12_cell_59 : decode cX12_cell 59 = .ok (.iaload, 1) := by decide +kernel
theorem dX12_cell_60 : decode cX12_cell 60 = .ok (.ireturn, 1) := by decide +kernel
theorem dX12_cell_61 : decode cX12_cell 61 = .ok (.aload_n 0, 1) := by decide +kernel
theorem dX12_cell_62 : decode cX12_cell 62 = .ok (.iload_n 1, 1) := by decide +kernel
theorem dX12_cell_63 : decode cX12_cell 63 = .ok (.invokevirtual 402, 3) := by decide +kernel
theorem dX12_cell_66 : decode cX12_cell 66 = .ok (.ireturn, 1) := by decide +kernel
theorem dX12_cell_67 : decode cX12_cell 67 = .ok (.aload_n 0, 1) := by decide +kernel
theorem dX12_cell_68 : decode cX12_cell 68 = .ok (.iload_n 1, 1) := by decide +kernel
theorem dX12_cell_69 : decode cX12_cell 69 = .ok (.invokevirtual 411, 3) := by decide +kernel
theorem dX12_cell_72 : decode cX12_cell 72 = .ok (.ireturn, 1) := by decide +kernel
theorem dX12_cell_73 : decode cX12_cell 73 = .ok (.aload_n 0, 1) := by decide +kernel
theorem dX12_cell_74 : decode cX12_cell 74 = .ok (.iload_n 1, 1) := by decide +kernel
theorem dX12_cell_75 : decode cX12_cell 75 = .ok (.invokevirtual 414, 3) := by decide +kernel
theorem dX12_cell_78 : decode cX12_cell 78 = .ok (.ifCond .eq 7, 3) := by decide +kernel
theorem dX12_cell_81 : decode cX12_cell 81 = .ok (.iconst 1, 1) := by decide +kernel
theorem dX12_cell_82 : decode cX12_cell 82 = .ok (.goto 4, 3) := by decide +kernel
theorem dX12_cell_85 : decode cX12_cell 85 = .ok (.iconst 0, 1) := by decide +kernel
theorem dX12_cell_86 : decode cX12_cell 86 = .ok (.ireturn, 1) := by decide +kernel
theorem dX12_cell_87 : decode cX12_cell 87 = .ok (.bipush (-2), 2) := by decide +kernel
theorem dX12_cell_89 : decode cX12_cell 89 = .ok (.ireturn, 1) := by decide +kernel
theorem dX12_coat_0 : decode cX12_coat 0 = .ok (.aload_n 0, 1) := by decide +kernel
theorem dX12_coat_1 : decode cX12_coat 1 = .ok (.iload_n 1, 1) := by decide +kernel
theorem dX12_coat_2 : decode cX12_coat 2 = .ok (.invokevirtual 405, 3) := by decide +kernel
theorem dX12_coat_5 : decode cX12_coat 5 = .ok (.ifCond .eq 17, 3) := by decide +kernel
theorem dX12_coat_8 : decode cX12_coat 8 = .ok (.iload_n 2, 1) := by decide +kernel
theorem dX12_coat_9 : decode cX12_coat 9 = .ok (.ifCond .lt 13, 3) := by decide +kernel
theorem dX12_coat_12 : decode cX12_coat 12 = .ok (.iload_n 2, 1) := by decide +kernel
theorem dX12_coat_13 : decode cX12_coat 13 = .ok (.aload_n 0, 1) := by decide +kernel
theorem dX12_coat_14 : decode cX12_coat 14 = .ok (.getfield 31, 3) := by decide +kernel
theorem dX12_coat_17 : decode cX12_coat 17 = .ok (.iload_n 1, 1) := by decide +kernel
theorem dX12_coat_18 : decode cX12_coat 18 = .ok (.iaload, 1) := by decide +kernel
theorem dX12_coat_19 : decode cX12_coat 19 = .ok (.if_icmp .lt 6, 3) := by decide +kernel
theorem dX12_coat_22 : decode cX12_coat 22 = .ok (.bipush (-2), 2) := by decide +kernel
theorem dX12_coat_24 : decode cX12_coat 24 = .ok (.ireturn, 1) := by decide +kernel
theorem dX12_coat_25 : decode cX12_coat 25 = .ok (.iconst 5, 1) := by decide +kernel
theorem dX12_coat_26 : decode cX12_coat 26 = .ok (.iload_n 1, 1) := by decide +kernel
theorem dX12_coat_27 : decode cX12_coat 27 = .ok (.imul, 1) := by decide +kernel
theorem dX12_coat_28 : decode cX12_coat 28 = .ok (.aload_n 0, 1) := by decide +kernel
theorem dX12_coat_29 : decode cX12_coat 29 = .ok (.getfield 31, 3) := by decide +kernel
theorem dX12_coat_32 : decode cX12_coat 32 = .ok (.iload_n 1, 1) := by decide +kernel
theorem dX12_coat_33 : decode cX12_coat 33 = .ok (.iaload, 1) := by decide +kernel
theorem dX12_coat_34 : decode cX12_coat 34 = .ok (.iadd, 1) := by decide +kernel
theorem dX12_coat_35 : decode cX12_coat 35 = .ok (.iconst 1, 1) := by decide +kernel
theorem dX12_coat_36 : decode cX12_coat 36 = .ok (.isub, 1) := by decide +kernel
theorem dX12_coat_37 : decode cX12_coat 37 = .ok (.iload_n 2, 1) := by decide +kernel
theorem dX12_coat_38 : decode cX12_coat 38 = .ok (.isub, 1) := by decide +kernel
theorem dX12_coat_39 : decode cX12_coat 39 = .ok (.istore 4, 2) := by decide +kernel
theorem dX12_coat_41 : decode cX12_coat 41 = .ok (.iload_n 3, 1) := by decide +kernel
theorem dX12_coat_42 : decode cX12_coat 42 = .ok (.tableswitch 55 0 2 #[26, 34, 47], 26) := by decide +kernel
theorem dX12_coat_68 : decode cX12_coat 68 = .ok (.aload_n 0, 1) := by decide +kernel
theorem dX12_coat_69 : decode cX12_coat 69 = .ok (.getfield 34, 3) := by decide +kernel
theorem dX12_coat_72 : decode cX12_coat 72 = .ok (.iload 4, 2) := by decide +kernel
theorem dX12_coat_74 : decode cX12_coat 74 = .ok (.iaload, 1) := by decide +kernel
theorem dX12_coat_75 : decode cX12_coat 75 = .ok (.ireturn, 1) := by decide +kernel
theorem dX12_coat_76 : decode cX12_coat 76 = .ok (.aload_n 0, 1) := by decide +kernel
theorem dX12_coat_77 : decode cX12_coat 77 = .ok (.getfield 19, 3) := by decide +kernel
theorem dX12_coat_80 : decode cX12_coat 80 = .ok (.aload_n 0, 1) := by decide +kernel
theorem dX12_coat_81 : decode cX12_coat 81 = .ok (.getfield 34, 3) := by decide +kernel
theorem dX12_coat_84 : decode cX12_coat 84 = .ok (.iload 4, 2) := by decide +kernel
theorem dX12_coat_86 : decode cX12_coat 86 = .ok (.iaload, 1) := by decide +kernel
theorem dX12_coat_87 : decode cX12_coat 87 = .ok (.iaload, 1) := by decide +kernel
theorem dX12_coat_88 : decode cX12_coat 88 = .ok (.ireturn, 1) := by decide +kernel
theorem dX12_coat_89 : decode cX12_coat 89 = .ok (.aload_n 0, 1) := by decide +kernel
theorem dX12_coat_90 : decode cX12_coat 90 = .ok (.getfield 37, 3) := by decide +kernel
theorem dX12_coat_93 : decode cX12_coat 93 = .ok (.iload 4, 2) := by decide +kernel
theorem dX12_coat_95 : decode cX12_coat 95 = .ok (.iaload, 1) := by decide +kernel
theorem dX12_coat_96 : decode cX12_coat 96 = .ok (.ireturn, 1) := by decide +kernel
theorem dX12_coat_97 : decode cX12_coat 97 = .ok (.bipush (-2), 2) := by decide +kernel
theorem dX12_coat_99 : decode cX12_coat 99 = .ok (.ireturn, 1) := by decide +kernel
theorem dX12_thing_0 : decode cX12_thing 0 = .ok (.aload_n 0, 1) := by decide +kernel
theorem dX12_thing_1 : decode cX12_thing 1 = .ok (.iload_n 1, 1) := by decide +kernel
theorem dX12_thing_2 : decode cX12_thing 2 = .ok (.invokevirtual 417, 3) := by decide +kernel
theorem dX12_thing_5 : decode cX12_thing 5 = .ok (.ifCond .ne 6, 3) := by decide +kernel
theorem dX12_thing_8 : decode cX12_thing 8 = .ok (.bipush (-2), 2) := by decide +kernel
theorem dX12_thing_10 : decode cX12_thing 10 = .ok (.ireturn, 1) := by decide +kernel
theorem dX12_thing_11 : decode cX12_thing 11 = .ok (.iload_n 2, 1) := by decide +kernel
theorem dX12_thing_12 : decode cX12_thing 12 = .ok (.tableswitch 76 0 4 #[36, 43, 49, 56, 62], 36) := by decide +kernel
theorem dX12_thing_48 : decode cX12_thing 48 = .ok (.aload_n 0, 1) := by decide +kernel
theorem dX12_thing_49 : decode cX12_thing 49 = .ok (.getfield 13, 3) := by decide +kernel
theorem dX12_thing_52 : decode cX12_thing 52 = .ok (.iload_n 1, 1) := by decide +kernel
theorem dX12_thing_53 : decode cX12_thing 53 = .ok (.iaload, 1) := by decide +kernel
theorem dX12_thing_54 : decode cX12_thing 54 = .ok (.ireturn, 1) := by decide +kernel
theorem dX12_thing_55 : decode cX12_thing 55 = .ok (.aload_n 0, 1) := by decide +kernel
theorem dX12_thing_56 : decode cX12_thing 56 = .ok (.iload_n 1, 1) := by decide +kernel
theorem dX12_thing_57 : decode cX12_thing 57 = .ok (.invokevirtual 396, 3) := by decide +kernel
theorem dX12_thing_60 : decode cX12_thing 60 = .ok (.ireturn, 1) := by decide +kernel
theorem dX12_thing_61 : decode cX12_thing 61 = .ok (.aload_n 0, 1) := by decide +kernel
theorem dX12_thing_62 : decode cX12_thing 62 = .ok (.getfield 16, 3) := by decide +kernel
theorem dX12_thing_65 : decode cX12_thing 65 = .ok (.iload_n 1, 1) := by decide +kernel
theorem dX12_thing_66 : decode cX12_thing 66 = .ok (.iaload, 1) := by decide +kernel
theorem dX12_thing_67 : decode cX12_thing 67 = .ok (.ireturn, 1) := by decide +kernel
theorem dX12_thing_68 : decode cX12_thing 68 = .ok (.aload_n 0, 1) := by decide +kernel
theorem dX12_thing_69 : decode cX12_thing 69 = .ok (.iload_n 1, 1) := by decide +kernel
theorem dX12_thing_70 : decode cX12_thing 70 = .ok (.invokevirtual 420, 3) := by decide +kernel
theorem dX12_thing_73 : decode cX12_thing 73 = .ok (.ireturn, 1) := by decide +kernel
theorem dX12_thing_74 : decode cX12_thing 74 = .ok (.aload_n 0, 1) := by decide +kernel
theorem dX12_thing_75 : decode cX12_thing 75 = .ok (.iload_n 1, 1) := by decide +kernel
theorem dX12_thing_76 : decode cX12_thing 76 = .ok (.invokevirtual 336, 3) := by decide +kernel
theorem dX12_thing_79 : decode cX12_thing 79 = .ok (.ifCond .eq 7, 3) := by decide +kernel
theorem dX12_thing_82 : decode cX12_thing 82 = .ok (.iconst 1, 1) := by decide +kernel
theorem dX12_thing_83 : decode cX12_thing 83 = .ok (.goto 4, 3) := by decide +kernel
theorem dX12_thing_86 : decode cX12_thing 86 = .ok (.iconst 0, 1) := by decide +kernel
theorem dX12_thing_87 : decode cX12_thing 87 = .ok (.ireturn, 1) := by decide +kernel
theorem dX12_thing_88 : decode cX12_thing 88 = .ok (.bipush (-2), 2) := by decide +kernel
theorem dX12_thing_90 : decode cX12_thing 90 = .ok (.ireturn, 1) := by decide +kernel
theorem dX12_painter_0 : decode cX12_painter 0 = .ok (.aload_n 0, 1) := by decide +kernel
theorem dX12_painter_1 : decode cX12_painter 1 = .ok (.iload_n 1, 1) := by decide +kernel
theorem dX12_painter_2 : decode cX12_painter 2 = .ok (.invokevirtual 423, 3) := by decide +kernel
theorem dX12_painter_5 : decode cX12_painter 5 = .ok (.ifCond .ne 5, 3) := by decide +kernel
theorem dX12_painter_8 : decode cX12_painter 8 = .ok (.iconst (-1), 1) := by decide +kernel
theorem dX12_painter_9 : decode cX12_painter 9 = .ok (.ireturn, 1) := by decide +kernel
theorem dX12_painter_10 : decode cX12_painter 10 = .ok (.iload_n 2, 1) := by decide +kernel
theorem dX12_painter_11 : decode cX12_painter 11 = .ok (.tableswitch 94 0 3 #[29, 36, 43, 49], 29) := by decide +kernel
theorem dX12_painter_40 : decode cX12_painter 40 = .ok (.aload_n 0, 1) := by decide +kernel
theorem dX12_painter_41 : decode cX12_painter 41 = .ok (.getfield 19, 3) := by decide +kernel
theorem dX12_painter_44 : decode cX12_painter 44 = .ok (.iload_n 1, 1) := by decide +kernel
theorem dX12_painter_45 : decode cX12_painter 45 = .ok (.iaload, 1) := by decide +kernel
theorem dX12_painter_46 : decode cX12_painter 46 = .ok (.ireturn, 1) := by decide +kernel
theorem dX12_painter_47 : decode cX12_painter 47 = .ok (.aload_n 0, 1) := by decide +kernel
theorem dX12_painter_48 : decode cX12_painter 48 = .ok (.getfield 22, 3) := by decide +kernel
theorem dX12_painter_51 : decode cX12_painter 51 = .ok (.iload_n 1, 1) := by decide +kernel
theorem dX12_painter_52 : decode cX12_painter 52 = .ok (.iaload, 1) := by decide +kernel
theorem dX12_painter_53 : decode cX12_painter 53 = .ok (.ireturn, 1) := by decide +kernel
theorem dX12_painter_54 : decode cX12_painter 54 = .ok (.aload_n 0, 1) := by decide +kernel
theorem dX12_painter_55 : decode cX12_painter 55 = .ok (.iload_n 1, 1) := by decide +kernel
theorem dX12_painter_56 : decode cX12_painter 56 = .ok (.invokevirtual 426, 3) := by decide +kernel
theorem dX12_painter_59 : decode cX12_painter 59 = .ok (.ireturn, 1) := by decide +kernel
theorem dX12_painter_60 : decode cX12_painter 60 = .ok (.iconst 0, 1) := by decide +kernel
theorem dX12_painter_61 : decode cX12_painter 61 = .ok (.istore_n 3, 1) := by decide +kernel
theorem dX12_painter_62 : decode cX12_painter 62 = .ok (.iconst 0, 1) := by decide +kernel
theorem dX12_painter_63 : decode cX12_painter 63 = .ok (.istore 4, 2) := by decide +kernel
theorem dX12_painter_65 : decode cX12_painter 65 = .ok (.iload 4, 2) := by decide +kernel
theorem dX12_painter_67 : decode cX12_painter 67 = .ok (.aload_n 0, 1) := by decide +kernel
theorem dX12_painter_68 : decode cX12_painter 68 = .ok (.getfield 9, 3) := by decide +kernel
theorem dX12_painter_71 : decode cX12_painter 71 = .ok (.iconst 3, 1) := by decide +kernel
theorem dX12_painter_72 : decode cX12_painter 72 = .ok (.iaload, 1) := by decide +kernel
theorem dX12_painter_73 : decode cX12_painter 73 = .ok (.if_icmp .ge 30, 3) := by decide +kernel
theorem dX12_painter_76 : decode cX12_painter 76 = .ok (.iload_n 3, 1) := by decide +kernel
theorem dX12_painter_77 : decode cX12_painter 77 = .ok (.aload_n 0, 1) := by decide +kernel
theorem dX12_painter_78 : decode cX12_painter 78 = .ok (.iload 4, 2) := by decide +kernel
theorem dX12_painter_80 : decode cX12_painter 80 = .ok (.invokevirtual 420, 3) := by decide +kernel
theorem dX12_painter_83 : decode cX12_painter 83 = .ok (.iload_n 1, 1) := by decide +kernel
theorem dX12_painter_84 : decode cX12_painter 84 = .ok (.if_icmp .ne 10, 3) := by decide +kernel
theorem dX12_painter_87 : decode cX12_painter 87 = .ok (.iconst 1, 1) := by decide +kernel
theorem dX12_painter_88 : decode cX12_painter 88 = .ok (.iload 4, 2) := by decide +kernel
theorem dX12_painter_90 : decode cX12_painter 90 = .ok (.ishl, 1) := by decide +kernel
theorem dX12_painter_91 : decode cX12_painter 91 = .ok (.goto 4, 3) := by decide +kernel
theorem dX12_painter_94 : decode cX12_painter 94 = .ok (.iconst 0, 1) := by decide +kernel
theorem dX12_painter_95 : decode cX12_painter 95 = .ok (.ior, 1) := by decide +kernel
theorem dX12_painter_96 : decode cX12_painter 96 = .ok (.istore_n 3, 1) := by decide +kernel
theorem dX12_painter_97 : decode cX12_painter 97 = .ok (.iinc 4 1, 3) := by decide +kernel
theorem dX12_painter_100 : decode cX12_painter 100 = .ok (.goto (-35), 3) := by decide +kernel
theorem dX12_painter_103 : decode cX12_painter 103 = .ok (.iload_n 3, 1) := by decide +kernel
theorem dX12_painter_104 : decode cX12_painter 104 = .ok (.ireturn, 1) := by decide +kernel
theorem dX12_painter_105 : decode cX12_painter 105 = .ok (.iconst (-1), 1) := by decide +kernel
theorem dX12_painter_106 : decode cX12_painter 106 = .ok (.ireturn, 1) := by decide +kernel
theorem dX12_rains_0 : decode cX12_rains 0 = .ok (.iconst 0, 1) := by decide +kernel
theorem dX12_rains_1 : decode cX12_rains 1 = .ok (.istore_n 2, 1) := by decide +kernel
theorem dX12_rains_2 : decode cX12_rains 2 = .ok (.iload_n 2, 1) := by decide +kernel
theorem dX12_rains_3 : decode cX12_rains 3 = .ok (.aload_n 0, 1) := by decide +kernel
theorem dX12_rains_4 : decode cX12_rains 4 = .ok (.getfield 9, 3) := by decide +kernel
theorem dX12_rains_7 : decode cX12_rains 7 = .ok (.bipush 7, 2) := by decide +kernel
theorem dX12_rains_9 : decode cX12_rains 9 = .ok (.iaload, 1) := by decide +kernel
theorem dX12_rains_10 : decode cX12_rains 10 = .ok (.if_icmp .ge 33, 3) := by decide +kernel
theorem dX12_rains_13 : decode cX12_rains 13 = .ok (.iload_n 1, 1) := by decide +kernel
theorem dX12_rains_14 : decode cX12_rains 14 = .ok (.i2l, 1) := by decide +kernel
theorem dX12_rains_15 : decode cX12_rains 15 = .ok (.aload_n 0, 1) := by decide +kernel
theorem dX12_rains_16 : decode cX12_rains 16 = .ok (.getfield 25, 3) := by decide +kernel
theorem dX12_rains_19 : decode cX12_rains 19 = .ok (.iload_n 2, 1) := by decide +kernel
theorem dX12_rains_20 : decode cX12_rains 20 = .ok (.iaload, 1) := by decide +kernel
theorem dX12_rains_21 : decode cX12_rains 21 = .ok (.i2l, 1) := by decide +kernel
theorem dX12_rains_22 : decode cX12_rains 22 = .ok (.aload_n 0, 1) := by decide +kernel
theorem dX12_rains_23 : decode cX12_rains 23 = .ok (.getfield 28, 3) := by decide +kernel
theorem dX12_rains_26 : decode cX12_rains 26 = .ok (.iload_n 2, 1) := by decide +kernel
theorem dX12_rains_27 : decode cX12_rains 27 = .ok (.iaload, 1) := by decide +kernel
theorem dX12_rains_28 : decode cX12_rains 28 = .ok (.i2l, 1) := by decide +kernel
theorem dX12_rains_29 : decode cX12_rains 29 = .ok (.invokestatic 164, 3) := by decide +kernel
theorem dX12_rains_32 : decode cX12_rains 32 = .ok (.ifCond .eq 5, 3) := by decide +kernel
theorem dX12_rains_35 : decode cX12_rains 35 = .ok (.iconst 1, 1) := by decide +kernel
theorem dX12_rains_36 : decode cX12_rains 36 = .ok (.ireturn, 1) := by decide +kernel
theorem dX12_rains_37 : decode cX12_rains 37 = .ok (.iinc 2 1, 3) := by decide +kernel
theorem dX12_rains_40 : decode cX12_rains 40 = .ok (.goto (-38), 3) := by decide +kernel
theorem dX12_rains_43 : decode cX12_rains 43 = .ok (.iconst 0, 1) := by decide +kernel
theorem dX12_rains_44 : decode cX12_rains 44 = .ok (.ireturn, 1) := by decide +kernel
theorem dX12_rain_0 : decode cX12_rain 0 = .ok (.aload_n 0, 1) := by decide +kernel
theorem dX12_rain_1 : decode cX12_rain 1 = .ok (.invokevirtual 429, 3) := by decide +kernel
theorem dX12_rain_4 : decode cX12_rain 4 = .ok (.ifCond .eq 7, 3) := by decide +kernel
theorem dX12_rain_7 : decode cX12_rain 7 = .ok (.iload_n 1, 1) := by decide +kernel
theorem dX12_rain_8 : decode cX12_rain 8 = .ok (.ifCond .ge 5, 3) := by decide +kernel
theorem dX12_rain_11 : decode cX12_rain 11 = .ok (.iconst (-1), 1) := by decide +kernel
theorem dX12_rain_12 : decode cX12_rain 12 = .ok (.ireturn, 1) := by decide +kernel
theorem dX12_rain_13 : decode cX12_rain 13 = .ok (.aload_n 0, 1) := by decide +kernel
theorem dX12_rain_14 : decode cX12_rain 14 = .ok (.iload_n 1, 1) := by decide +kernel
theorem dX12_rain_15 : decode cX12_rain 15 = .ok (.invokevirtual 432, 3) := by decide +kernel
theorem dX12_rain_18 : decode cX12_rain 18 = .ok (.ifCond .eq 7, 3) := by decide +kernel
theorem dX12_rain_21 : decode cX12_rain 21 = .ok (.iconst 1, 1) := by decide +kernel
theorem dX12_rain_22 : decode cX12_rain 22 = .ok (.goto 4, 3) := by decide +kernel
theorem dX12_rain_25 : decode cX12_rain 25 = .ok (.iconst 0, 1) := by decide +kernel
theorem dX12_rain_26 : decode cX12_rain 26 = .ok (.ireturn, 1) := by decide +kernel
theorem dX12_paints_0 : decode cX12_paints 0 = .ok (.aload_n 0, 1) := by decide +kernel
theorem dX12_paints_1 : decode cX12_paints 1 = .ok (.getfield 31, 3) := by decide +kernel
theorem dX12_paints_4 : decode cX12_paints 4 = .ok (.iload_n 1, 1) := by decide +kernel
theorem dX12_paints_5 : decode cX12_paints 5 = .ok (.iaload, 1) := by decide +kernel
theorem dX12_paints_6 : decode cX12_paints 6 = .ok (.iconst 5, 1) := by decide +kernel
theorem dX12_paints_7 : decode cX12_paints 7 = .ok (.if_icmp .ne 62, 3) := by decide +kernel
theorem dX12_paints_10 : decode cX12_paints 10 = .ok (.iconst 5, 1) := by decide +kernel
theorem dX12_paints_11 : decode cX12_paints 11 = .ok (.iload_n 1, 1) := by decide +kernel
theorem dX12_paints_12 : decode cX12_paints 12 = .ok (.imul, 1) := by decide +kernel
theorem dX12_paints_13 : decode cX12_paints 13 = .ok (.iconst 1, 1) := by decide +kernel
theorem dX12_paints_14 : decode cX12_paints 14 = .ok (.iadd, 1) := by decide +kernel
theorem dX12_paints_15 : decode cX12_paints 15 = .ok (.istore_n 3, 1) := by decide +kernel
theorem dX12_paints_16 : decode cX12_paints 16 = .ok (.iload_n 3, 1) := by decide +kernel
theorem dX12_paints_17 : decode cX12_paints 17 = .ok (.iconst 5, 1) := by decide +kernel
theorem dX12_paints_18 : decode cX12_paints 18 = .ok (.iload_n 1, 1) := by decide +kernel
theorem dX12_paints_19 : decode cX12_paints 19 = .ok (.imul, 1) := by decide +kernel
theorem dX12_paints_20 : decode cX12_paints 20 = .ok (.iconst 5, 1) := by decide +kernel
theorem dX12_paints_21 : decode cX12_paints 21 = .ok (.iadd, 1) := by decide +kernel
theorem dX12_paints_22 : decode cX12_paints 22 = .ok (.if_icmp .ge 37, 3) := by decide +kernel
theorem dX12_paints_25 : decode cX12_paints 25 = .ok (.aload_n 0, 1) := by decide +kernel
theorem dX12_paints_26 : decode cX12_paints 26 = .ok (.getfield 34, 3) := by decide +kernel
theorem dX12_paints_29 : decode cX12_paints 29 = .ok (.iload_n 3, 1) := by decide +kernel
theorem dX12_paints_30 : decode cX12_paints 30 = .ok (.iconst 1, 1) := by decide +kernel
theorem dX12_paints_31 : decode cX12_paints 31 = .ok (.isub, 1) := by decide +kernel
theorem dX12_paints_32 : decode cX12_paints 32 = .ok (.aload_n 0, 1) := by decide +kernel
theorem dX12_paints_33 : decode cX12_paints 33 = .ok (.getfield 34, 3) := by decide +kernel
theorem dX12_paints_36 : decode cX12_paints 36 = .ok (.iload_n 3, 1) := by decide +kernel
theorem dX12_paints_37 : decode cX12_paints 37 = .ok (.iaload, 1) := by decide +kernel
theorem dX12_paints_38 : decode cX12_paints 38 = .ok (.iastore, 1) := by decide +kernel
theorem dX12_paints_39 : decode cX12_paints 39 = .ok (.aload_n 0, 1) := by decide +kernel
theorem dX12_paints_40 : decode cX12_paints 40 = .ok (.getfield 37, 3) := by decide +kernel
theorem dX12_paints_43 : decode cX12_paints 43 = .ok (.iload_n 3, 1) := by decide +kernel
theorem dX12_paints_44 : decode cX12_paints 44 = .ok (.iconst 1, 1) := by decide +kernel
theorem dX12_paints_45 : decode cX12_paints 45 = .ok (.isub, 1) := by decide +kernel
theorem dX12_paints_46 : decode cX12_paints 46 = .ok (.aload_n 0, 1) := by decide +kernel
theorem dX12_paints_47 : decode cX12_paints 47 = .ok (.getfield 37, 3) := by decide +kernel
theorem dX12_paints_50 : decode cX12_paints 50 = .ok (.iload_n 3, 1) := by decide +kernel
theorem dX12_paints_51 : decode cX12_paints 51 = .ok (.iaload, 1) := by decide +kernel
theorem dX12_paints_52 : decode cX12_paints 52 = .ok (.iastore, 1) := by decide +kernel
theorem dX12_paints_53 : decode cX12_paints 53 = .ok (.iinc 3 1, 3) := by decide +kernel
theorem dX12_paints_56 : decode cX12_paints 56 = .ok (.goto (-40), 3) := by decide +kernel
theorem dX12_paints_59 : decode cX12_paints 59 = .ok (.aload_n 0, 1) := by decide +kernel
theorem dX12_paints_60 : decode cX12_paints 60 = .ok (.getfield 31, 3) := by decide +kernel
theorem dX12_paints_63 : decode cX12_paints 63 = .ok (.iload_n 1, 1) := by decide +kernel
theorem dX12_paints_64 : decode cX12_paints 64 = .ok (.dup2, 1) := by decide +kernel
theorem dX12_paints_65 : decode cX12_paints 65 = .ok (.iaload, 1) := by decide +kernel
theorem dX12_paints_66 : decode cX12_paints 66 = .ok (.iconst 1, 1) := by decide +kernel
theorem dX12_paints_67 : decode cX12_paints 67 = .ok (.isub, 1) := by decide +kernel
theorem dX12_paints_68 : decode cX12_paints 68 = .ok (.iastore, 1) := by decide +kernel
theorem dX12_paints_69 : decode cX12_paints 69 = .ok (.aload_n 0, 1) := by decide +kernel
theorem dX12_paints_70 : decode cX12_paints 70 = .ok (.getfield 34, 3) := by decide +kernel
theorem dX12_paints_73 : decode cX12_paints 73 = .ok (.iconst 5, 1) := by decide +kernel
theorem dX12_paints_74 : decode cX12_paints 74 = .ok (.iload_n 1, 1) := by decide +kernel
theorem dX12_paints_75 : decode cX12_paints 75 = .ok (.imul, 1) := by decide +kernel
theorem dX12_paints_76 : decode cX12_paints 76 = .ok (.aload_n 0, 1) := by decide +kernel
theorem dX12_paints_77 : decode cX12_paints 77 = .ok (.getfield 31, 3) := by decide +kernel
theorem dX12_paints_80 : decode cX12_paints 80 = .ok (.iload_n 1, 1) := by decide +kernel
theorem dX12_paints_81 : decode cX12_paints 81 = .ok (.iaload, 1) := by decide +kernel
theorem dX12_paints_82 : decode cX12_paints 82 = .ok (.iadd, 1) := by decide +kernel
theorem dX12_paints_83 : decode cX12_paints 83 = .ok (.iload_n 2, 1) := by decide +kernel
theorem dX12_paints_84 : decode cX12_paints 84 = .ok (.iastore, 1) := by decide +kernel
theorem dX12_paints_85 : decode cX12_paints 85 = .ok (.aload_n 0, 1) := by decide +kernel
theorem dX12_paints_86 : decode cX12_paints 86 = .ok (.getfield 37, 3) := by decide +kernel
theorem dX12_paints_89 : decode cX12_paints 89 = .ok (.iconst 5, 1) := by decide +kernel
theorem dX12_paints_90 : decode cX12_paints 90 = .ok (.iload_n 1, 1) := by decide +kernel
theorem dX12_paints_91 : decode cX12_paints 91 = .ok (.imul, 1) := by decide +kernel
theorem dX12_paints_92 : decode cX12_paints 92 = .ok (.aload_n 0, 1) := by decide +kernel
theorem dX12_paints_93 : decode cX12_paints 93 = .ok (.getfield 31, 3) := by decide +kernel
theorem dX12_paints_96 : decode cX12_paints 96 = .ok (.iload_n 1, 1) := by decide +kernel
theorem dX12_paints_97 : decode cX12_paints 97 = .ok (.iaload, 1) := by decide +kernel
theorem dX12_paints_98 : decode cX12_paints 98 = .ok (.iadd, 1) := by decide +kernel
theorem dX12_paints_99 : decode cX12_paints 99 = .ok (.aload_n 0, 1) := by decide +kernel
theorem dX12_paints_100 : decode cX12_paints 100 = .ok (.getfield 9, 3) := by decide +kernel
theorem dX12_paints_103 : decode cX12_paints 103 = .ok (.bipush 9, 2) := by decide +kernel
theorem dX12_paints_105 : decode cX12_paints 105 = .ok (.iaload, 1) := by decide +kernel
theorem dX12_paints_106 : decode cX12_paints 106 = .ok (.iastore, 1) := by decide +kernel
theorem dX12_paints_107 : decode cX12_paints 107 = .ok (.aload_n 0, 1) := by decide +kernel
theorem dX12_paints_108 : decode cX12_paints 108 = .ok (.getfield 31, 3) := by decide +kernel
theorem dX12_paints_111 : decode cX12_paints 111 = .ok (.iload_n 1, 1) := by decide +kernel
theorem dX12_paints_112 : decode cX12_paints 112 = .ok (.dup2, 1) := by decide +kernel
theorem dX12_paints_113 : decode cX12_paints 113 = .ok (.iaload, 1) := by decide +kernel
theorem dX12_paints_114 : decode cX12_paints 114 = .ok (.iconst 1, 1) := by decide +kernel
theorem dX12_paints_115 : decode cX12_paints 115 = .ok (.iadd, 1) := by decide +kernel
theorem dX12_paints_116 : decode cX12_paints 116 = .ok (.iastore, 1) := by decide +kernel
theorem dX12_paints_117 : decode cX12_paints 117 = .ok (.return_, 1) := by decide +kernel
theorem dX12_canPaint_0 : decode cX12_canPaint 0 = .ok (.aload_n 0, 1) := by decide +kernel
theorem dX12_canPaint_1 : decode cX12_canPaint 1 = .ok (.aload_n 0, 1) := by decide +kernel
theorem dX12_canPaint_2 : decode cX12_canPaint 2 = .ok (.iload_n 1, 1) := by decide +kernel
theorem dX12_canPaint_3 : decode cX12_canPaint 3 = .ok (.invokevirtual 408, 3) := by decide +kernel
theorem dX12_canPaint_6 : decode cX12_canPaint 6 = .ok (.invokevirtual 336, 3) := by decide +kernel
theorem dX12_canPaint_9 : decode cX12_canPaint 9 = .ok (.ifCond .ne 22, 3) := by decide +kernel
theorem dX12_canPaint_12 : decode cX12_canPaint 12 = .ok (.aload_n 0, 1) := by decide +kernel
theorem dX12_canPaint_13 : decode cX12_canPaint 13 = .ok (.getfield 22, 3) := by decide +kernel
theorem dX12_canPaint_16 : decode cX12_canPaint 16 = .ok (.iload_n 2, 1) := by decide +kernel
theorem dX12_canPaint_17 : decode cX12_canPaint 17 = .ok (.iaload, 1) := by decide +kernel
theorem dX12_canPaint_18 : decode cX12_canPaint 18 = .ok (.aload_n 0, 1) := by decide +kernel
theorem dX12_canPaint_19 : decode cX12_canPaint 19 = .ok (.getfield 9, 3) := by decide +kernel
theorem dX12_canPaint_22 : decode cX12_canPaint 22 = .ok (.iconst 2, 1) := by decide +kernel
theorem dX12_canPaint_23 : decode cX12_canPaint 23 = .ok (.iaload, 1) := by decide +kernel
theorem dX12_canPaint_24 : decode cX12_canPaint 24 = .ok (.if_icmp .lt 7, 3) := by decide +kernel
theorem dX12_canPaint_27 : decode cX12_canPaint 27 = .ok (.iconst 1, 1) := by decide +kernel
theorem dX12_canPaint_28 : decode cX12_canPaint 28 = .ok (.goto 4, 3) := by decide +kernel
theorem dX12_canPaint_31 : decode cX12_canPaint 31 = .ok (.iconst 0, 1) := by decide +kernel
theorem dX12_canPaint_32 : decode cX12_canPaint 32 = .ok (.ireturn, 1) := by decide +kernel
theorem dX12_asks_0 : decode cX12_asks 0 = .ok (.aload_n 0, 1) := by decide +kernel
theorem dX12_asks_1 : decode cX12_asks 1 = .ok (.iload_n 2, 1) := by decide +kernel
theorem dX12_asks_2 : decode cX12_asks 2 = .ok (.invokevirtual 408, 3) := by decide +kernel
theorem dX12_asks_5 : decode cX12_asks 5 = .ok (.istore_n 3, 1) := by decide +kernel
theorem dX12_asks_6 : decode cX12_asks 6 = .ok (.aload_n 0, 1) := by decide +kernel
theorem dX12_asks_7 : decode cX12_asks 7 = .ok (.getfield 117, 3) := by decide +kernel
theorem dX12_asks_10 : decode cX12_asks 10 = .ok (.iconst 0, 1) := by decide +kernel
theorem dX12_asks_11 : decode cX12_asks 11 = .ok (.iload_n 1, 1) := by decide +kernel
theorem dX12_asks_12 : decode cX12_asks 12 = .ok (.i2l, 1) := by decide +kernel
theorem dX12_asks_13 : decode cX12_asks 13 = .ok (.lastore, 1) := by decide +kernel
theorem dX12_asks_14 : decode cX12_asks 14 = .ok (.aload_n 0, 1) := by decide +kernel
theorem dX12_asks_15 : decode cX12_asks 15 = .ok (.getfield 117, 3) := by decide +kernel
theorem dX12_asks_18 : decode cX12_asks 18 = .ok (.iconst 1, 1) := by decide +kernel
theorem dX12_asks_19 : decode cX12_asks 19 = .ok (.iload_n 2, 1) := by decide +kernel
theorem dX12_asks_20 : decode cX12_asks 20 = .ok (.i2l, 1) := by decide +kernel
theorem dX12_asks_21 : decode cX12_asks 21 = .ok (.lastore, 1) := by decide +kernel
theorem dX12_asks_22 : decode cX12_asks 22 = .ok (.aload_n 0, 1) := by decide +kernel
theorem dX12_asks_23 : decode cX12_asks 23 = .ok (.getfield 117, 3) := by decide +kernel
theorem dX12_asks_26 : decode cX12_asks 26 = .ok (.iconst 2, 1) := by decide +kernel
theorem dX12_asks_27 : decode cX12_asks 27 = .ok (.iload_n 3, 1) := by decide +kernel
theorem dX12_asks_28 : decode cX12_asks 28 = .ok (.i2l, 1) := by decide +kernel
theorem dX12_asks_29 : decode cX12_asks 29 = .ok (.lastore, 1) := by decide +kernel
theorem dX12_asks_30 : decode cX12_asks 30 = .ok (.aload_n 0, 1) := by decide +kernel
theorem dX12_asks_31 : decode cX12_asks 31 = .ok (.getfield 117, 3) := by decide +kernel
theorem dX12_asks_34 : decode cX12_asks 34 = .ok (.iconst 3, 1) := by decide +kernel
theorem dX12_asks_35 : decode cX12_asks 35 = .ok (.aload_n 0, 1) := by decide +kernel
theorem dX12_asks_36 : decode cX12_asks 36 = .ok (.getfield 16, 3) := by decide +kernel
theorem dX12_asks_39 : decode cX12_asks 39 = .ok (.iload_n 3, 1) := by decide +kernel
theorem dX12_asks_40 : decode cX12_asks 40 = .ok (.iaload, 1) := by decide +kernel
theorem dX12_asks_41 : decode cX12_asks 41 = .ok (.i2l, 1) := by decide +kernel
theorem dX12_asks_42 : decode cX12_asks 42 = .ok (.lastore, 1) := by decide +kernel
theorem dX12_asks_43 : decode cX12_asks 43 = .ok (.aload_n 0, 1) := by decide +kernel
theorem dX12_asks_44 : decode cX12_asks 44 = .ok (.getfield 117, 3) := by decide +kernel
theorem dX12_asks_47 : decode cX12_asks 47 = .ok (.iconst 4, 1) := by decide +kernel
theorem dX12_asks_48 : decode cX12_asks 48 = .ok (.aload_n 0, 1) := by decide +kernel
theorem dX12_asks_49 : decode cX12_asks 49 = .ok (.iload_n 2, 1) := by decide +kernel
theorem dX12_asks_50 : decode cX12_asks 50 = .ok (.invokevirtual 411, 3) := by decide +kernel
theorem dX12_asks_53 : decode cX12_asks 53 = .ok (.i2l, 1) := by decide +kernel
theorem dX12_asks_54 : decode cX12_asks 54 = .ok (.lastore, 1) := by decide +kernel
theorem dX12_asks_55 : decode cX12_asks 55 = .ok (.aload_n 0, 1) := by decide +kernel
theorem dX12_asks_56 : decode cX12_asks 56 = .ok (.getfield 117, 3) := by decide +kernel
theorem dX12_asks_59 : decode cX12_asks 59 = .ok (.iconst 5, 1) := by decide +kernel
theorem dX12_asks_60 : decode cX12_asks 60 = .ok (.aload_n 0, 1) := by decide +kernel
theorem dX12_asks_61 : decode cX12_asks 61 = .ok (.iload_n 2, 1) := by decide +kernel
theorem dX12_asks_62 : decode cX12_asks 62 = .ok (.invokevirtual 414, 3) := by decide +kernel
theorem dX12_asks_65 : decode cX12_asks 65 = .ok (.ifCond .eq 7, 3) := by decide +kernel
theorem dX12_asks_68 : decode cX12_asks 68 = .ok (.lconst 1, 1) := by decide +kernel
theorem dX12_asks_69 : decode cX12_asks 69 = .ok (.goto 4, 3) := by decide +kernel
theorem dX12_asks_72 : decode cX12_asks 72 = .ok (.lconst 0, 1) := by decide +kernel
theorem dX12_asks_73 : decode cX12_asks 73 = .ok (.lastore, 1) := by decide +kernel
theorem dX12_asks_74 : decode cX12_asks 74 = .ok (.aload_n 0, 1) := by decide +kernel
theorem dX12_asks_75 : decode cX12_asks 75 = .ok (.getfield 117, 3) := by decide +kernel
theorem dX12_asks_78 : decode cX12_asks 78 = .ok (.bipush 6, 2) := by decide +kernel
theorem dX12_asks_80 : decode cX12_asks 80 = .ok (.aload_n 0, 1) := by decide +kernel
theorem dX12_asks_81 : decode cX12_asks 81 = .ok (.iload_n 2, 1) := by decide +kernel
theorem dX12_asks_82 : decode cX12_asks 82 = .ok (.invokevirtual 402, 3) := by decide +kernel
theorem dX12_asks_85 : decode cX12_asks 85 = .ok (.i2l, 1) := by decide +kernel
theorem dX12_asks_86 : decode cX12_asks 86 = .ok (.lastore, 1) := by decide +kernel
theorem dX12_asks_87 : decode cX12_asks 87 = .ok (.aload_n 0, 1) := by decide +kernel
theorem dX12_asks_88 : decode cX12_asks 88 = .ok (.getfield 117, 3) := by decide +kernel
theorem dX12_asks_91 : decode cX12_asks 91 = .ok (.bipush 8, 2) := by decide +kernel
theorem dX12_asks_93 : decode cX12_asks 93 = .ok (.aload_n 0, 1) := by decide +kernel
theorem dX12_asks_94 : decode cX12_asks 94 = .ok (.iload_n 3, 1) := by decide +kernel
theorem dX12_asks_95 : decode cX12_asks 95 = .ok (.invokevirtual 420, 3) := by decide +kernel
theorem dX12_asks_98 : decode cX12_asks 98 = .ok (.i2l, 1) := by decide +kernel
theorem dX12_asks_99 : decode cX12_asks 99 = .ok (.lastore, 1) := by decide +kernel
theorem dX12_asks_100 : decode cX12_asks 100 = .ok (.aload_n 0, 1) := by decide +kernel
theorem dX12_asks_101 : decode cX12_asks 101 = .ok (.iload_n 3, 1) := by decide +kernel
theorem dX12_asks_102 : decode cX12_asks 102 = .ok (.aload_n 0, 1) := by decide +kernel
theorem dX12_asks_103 : decode cX12_asks 103 = .ok (.getfield 9, 3) := by decide +kernel
theorem dX12_asks_106 : decode cX12_asks 106 = .ok (.bipush 9, 2) := by decide +kernel
theorem dX12_asks_108 : decode cX12_asks 108 = .ok (.iaload, 1) := by decide +kernel
theorem dX12_asks_109 : decode cX12_asks 109 = .ok (.iconst 0, 1) := by decide +kernel
theorem dX12_asks_110 : decode cX12_asks 110 = .ok (.invokevirtual 392, 3) := by decide +kernel
theorem dX12_asks_113 : decode cX12_asks 113 = .ok (.aload_n 0, 1) := by decide +kernel
theorem dX12_asks_114 : decode cX12_asks 114 = .ok (.getfield 117, 3) := by decide +kernel
theorem dX12_asks_117 : decode cX12_asks 117 = .ok (.bipush 7, 2) := by decide +kernel
theorem dX12_asks_119 : decode cX12_asks 119 = .ok (.aload_n 0, 1) := by decide +kernel
theorem dX12_asks_120 : decode cX12_asks 120 = .ok (.getfield 124, 3) := by decide +kernel
theorem dX12_asks_123 : decode cX12_asks 123 = .ok (.iload_n 1, 1) := by decide +kernel
theorem dX12_asks_124 : decode cX12_asks 124 = .ok (.iaload, 1) := by decide +kernel
theorem dX12_asks_125 : decode cX12_asks 125 = .ok (.i2l, 1) := by decide +kernel
theorem dX12_asks_126 : decode cX12_asks 126 = .ok (.lastore, 1) := by decide +kernel
theorem dX12_asks_127 : decode cX12_asks 127 = .ok (.aload_n 0, 1) := by decide +kernel
theorem dX12_asks_128 : decode cX12_asks 128 = .ok (.getfield 117, 3) := by decide +kernel
theorem dX12_asks_131 : decode cX12_asks 131 = .ok (.bipush 9, 2) := by decide +kernel
theorem dX12_asks_133 : decode cX12_asks 133 = .ok (.aload_n 0, 1) := by decide +kernel
theorem dX12_asks_134 : decode cX12_asks 134 = .ok (.getfield 31, 3) := by decide +kernel
theorem dX12_asks_137 : decode cX12_asks 137 = .ok (.iload_n 2, 1) := by decide +kernel
theorem dX12_asks_138 : decode cX12_asks 138 = .ok (.iaload, 1) := by decide +kernel
theorem dX12_asks_139 : decode cX12_asks 139 = .ok (.i2l, 1) := by decide +kernel
theorem dX12_asks_140 : decode cX12_asks 140 = .ok (.lastore, 1) := by decide +kernel
theorem dX12_asks_141 : decode cX12_asks 141 = .ok (.aload_n 0, 1) := by decide +kernel
theorem dX12_asks_142 : decode cX12_asks 142 = .ok (.getfield 117, 3) := by decide +kernel
theorem dX12_asks_145 : decode cX12_asks 145 = .ok (.bipush 10, 2) := by decide +kernel
theorem dX12_asks_147 : decode cX12_asks 147 = .ok (.aload_n 0, 1) := by decide +kernel
theorem dX12_asks_148 : decode cX12_asks 148 = .ok (.getfield 22, 3) := by decide +kernel
theorem dX12_asks_151 : decode cX12_asks 151 = .ok (.iload_n 1, 1) := by decide +kernel
theorem dX12_asks_152 : decode cX12_asks 152 = .ok (.iaload, 1) := by decide +kernel
theorem dX12_asks_153 : decode cX12_asks 153 = .ok (.i2l, 1) := by decide +kernel
theorem dX12_asks_154 : decode cX12_asks 154 = .ok (.lastore, 1) := by decide +kernel
theorem dX12_asks_155 : decode cX12_asks 155 = .ok (.aload_n 0, 1) := by decide +kernel
theorem dX12_asks_156 : decode cX12_asks 156 = .ok (.getfield 117, 3) := by decide +kernel
theorem dX12_asks_159 : decode cX12_asks 159 = .ok (.bipush 11, 2) := by decide +kernel
theorem dX12_asks_161 : decode cX12_asks 161 = .ok (.aload_n 0, 1) := by decide +kernel
theorem dX12_asks_162 : decode cX12_asks 162 = .ok (.getfield 9, 3) := by decide +kernel
theorem dX12_asks_165 : decode cX12_asks 165 = .ok (.bipush 9, 2) := by decide +kernel
theorem dX12_asks_167 : decode cX12_asks 167 = .ok (.iaload, 1) := by decide +kernel
theorem dX12_asks_168 : decode cX12_asks 168 = .ok (.i2l, 1) := by decide +kernel
theorem dX12_asks_169 : decode cX12_asks 169 = .ok (.lastore, 1) := by decide +kernel
theorem dX12_asks_170 : decode cX12_asks 170 = .ok (.aload_n 0, 1) := by decide +kernel
theorem dX12_asks_171 : decode cX12_asks 171 = .ok (.getfield 117, 3) := by decide +kernel
theorem dX12_asks_174 : decode cX12_asks 174 = .ok (.bipush 12, 2) := by decide +kernel
theorem dX12_asks_176 : decode cX12_asks 176 = .ok (.aload_n 0, 1) := by decide +kernel
theorem dX12_asks_177 : decode cX12_asks 177 = .ok (.aload_n 0, 1) := by decide +kernel
theorem dX12_asks_178 : decode cX12_asks 178 = .ok (.getfield 9, 3) := by decide +kernel
theorem dX12_asks_181 : decode cX12_asks 181 = .ok (.bipush 9, 2) := by decide +kernel
theorem dX12_asks_183 : decode cX12_asks 183 = .ok (.iaload, 1) := by decide +kernel
theorem dX12_asks_184 : decode cX12_asks 184 = .ok (.invokevirtual 432, 3) := by decide +kernel
theorem dX12_asks_187 : decode cX12_asks 187 = .ok (.ifCond .eq 7, 3) := by decide +kernel
theorem dX12_asks_190 : decode cX12_asks 190 = .ok (.lconst 1, 1) := by decide +kernel
theorem dX12_asks_191 : decode cX12_asks 191 = .ok (.goto 4, 3) := by decide +kernel
theorem dX12_asks_194 : decode cX12_asks 194 = .ok (.lconst 0, 1) := by decide +kernel
theorem dX12_asks_195 : decode cX12_asks 195 = .ok (.lastore, 1) := by decide +kernel
theorem dX12_asks_196 : decode cX12_asks 196 = .ok (.return_, 1) := by decide +kernel
theorem dX12_cellBy_0 : decode cX12_cellBy 0 = .ok (.iconst (-1), 1) := by decide +kernel
theorem dX12_cellBy_1 : decode cX12_cellBy 1 = .ok (.istore_n 2, 1) := by decide +kernel
theorem dX12_cellBy_2 : decode cX12_cellBy 2 = .ok (.lconst 0, 1) := by decide +kernel
theorem dX12_cellBy_3 : decode cX12_cellBy 3 = .ok (.lstore_n 3, 1) := by decide +kernel
theorem dX12_cellBy_4 : decode cX12_cellBy 4 = .ok (.iconst 0, 1) := by decide +kernel
theorem dX12_cellBy_5 : decode cX12_cellBy 5 = .ok (.istore 5, 2) := by decide +kernel
theorem dX12_cellBy_7 : decode cX12_cellBy 7 = .ok (.iload 5, 2) := by decide +kernel
theorem dX12_cellBy_9 : decode cX12_cellBy 9 = .ok (.aload_n 0, 1) := by decide +kernel
theorem dX12_cellBy_10 : decode cX12_cellBy 10 = .ok (.getfield 9, 3) := by decide +kernel
theorem dX12_cellBy_13 : decode cX12_cellBy 13 = .ok (.iconst 4, 1) := by decide +kernel
theorem dX12_cellBy_14 : decode cX12_cellBy 14 = .ok (.iaload, 1) := by decide +kernel
theorem dX12_cellBy_15 : decode cX12_cellBy 15 = .ok (.if_icmp .ge 45, 3) := by decide +kernel
theorem dX12_cellBy_18 : decode cX12_cellBy 18 = .ok (.aload_n 0, 1) := by decide +kernel
theorem dX12_cellBy_19 : decode cX12_cellBy 19 = .ok (.iload 5, 2) := by decide +kernel
theorem dX12_cellBy_21 : decode cX12_cellBy 21 = .ok (.iload_n 1, 1) := by decide +kernel
theorem dX12_cellBy_22 : decode cX12_cellBy 22 = .ok (.invokevirtual 435, 3) := by decide +kernel
theorem dX12_cellBy_25 : decode cX12_cellBy 25 = .ok (.ifCond .eq 29, 3) := by decide +kernel
theorem dX12_cellBy_28 : decode cX12_cellBy 28 = .ok (.aload_n 0, 1) := by decide +kernel
theorem dX12_cellBy_29 : decode cX12_cellBy 29 = .ok (.iload_n 1, 1) := by decide +kernel
theorem dX12_cellBy_30 : decode cX12_cellBy 30 = .ok (.iload 5, 2) := by decide +kernel
theorem dX12_cellBy_32 : decode cX12_cellBy 32 = .ok (.invokevirtual 438, 3) := by decide +kernel
theorem dX12_cellBy_35 : decode cX12_cellBy 35 = .ok (.aload_n 0, 1) := by decide +kernel
theorem dX12_cellBy_36 : decode cX12_cellBy 36 = .ok (.invokevirtual 441, 3) := by decide +kernel
theorem dX12_cellBy_39 : decode cX12_cellBy 39 = .ok (.lstore 6, 2) := by decide +kernel
theorem dX12_cellBy_41 : decode cX12_cellBy 41 = .ok (.lload 6, 2) := by decide +kernel
theorem dX12_cellBy_43 : decode cX12_cellBy 43 = .ok (.lload_n 3, 1) := by decide +kernel
theorem dX12_cellBy_44 : decode cX12_cellBy 44 = .ok (.lcmp, 1) := by decide +kernel
theorem dX12_cellBy_45 : decode cX12_cellBy 45 = .ok (.ifCond .le 9, 3) := by decide +kernel
theorem dX12_cellBy_48 : decode cX12_cellBy 48 = .ok (.iload 5, 2) := by decide +kernel
theorem dX12_cellBy_50 : decode cX12_cellBy 50 = .ok (.istore_n 2, 1) := by decide +kernel
theorem dX12_cellBy_51 : decode cX12_cellBy 51 = .ok (.lload 6, 2) := by decide +kernel
theorem dX12_cellBy_53 : decode cX12_cellBy 53 = .ok (.lstore_n 3, 1) := by decide +kernel
theorem dX12_cellBy_54 : decode cX12_cellBy 54 = .ok (.iinc 5 1, 3) := by decide +kernel
theorem dX12_cellBy_57 : decode cX12_cellBy 57 = .ok (.goto (-50), 3) := by decide +kernel
theorem dX12_cellBy_60 : decode cX12_cellBy 60 = .ok (.iload_n 2, 1) := by decide +kernel
theorem dX12_cellBy_61 : decode cX12_cellBy 61 = .ok (.ireturn, 1) := by decide +kernel
theorem dX12_paintsAll_0 : decode cX12_paintsAll 0 = .ok (.iconst 0, 1) := by decide +kernel
theorem dX12_paintsAll_1 : decode cX12_paintsAll 1 = .ok (.istore_n 1, 1) := by decide +kernel
theorem dX12_paintsAll_2 : decode cX12_paintsAll 2 = .ok (.iconst 0, 1) := by decide +kernel
theorem dX12_paintsAll_3 : decode cX12_paintsAll 3 = .ok (.istore_n 2, 1) := by decide +kernel
theorem dX12_paintsAll_4 : decode cX12_paintsAll 4 = .ok (.iload_n 2, 1) := by decide +kernel
theorem dX12_paintsAll_5 : decode cX12_paintsAll 5 = .ok (.aload_n 0, 1) := by decide +kernel
theorem dX12_paintsAll_6 : decode cX12_paintsAll 6 = .ok (.getfield 9, 3) := by decide +kernel
theorem dX12_paintsAll_9 : decode cX12_paintsAll 9 = .ok (.iconst 5, 1) := by decide +kernel
theorem dX12_paintsAll_10 : decode cX12_paintsAll 10 = .ok (.iaload, 1) := by decide +kernel
theorem dX12_paintsAll_11 : decode cX12_paintsAll 11 = .ok (.if_icmp .ge 55, 3) := by decide +kernel
theorem dX12_paintsAll_14 : decode cX12_paintsAll 14 = .ok (.aload_n 0, 1) := by decide +kernel
theorem dX12_paintsAll_15 : decode cX12_paintsAll 15 = .ok (.getfield 9, 3) := by decide +kernel
theorem dX12_paintsAll_18 : decode cX12_paintsAll 18 = .ok (.bipush 12, 2) := by decide +kernel
theorem dX12_paintsAll_20 : decode cX12_paintsAll 20 = .ok (.iaload, 1) := by decide +kernel
theorem dX12_paintsAll_21 : decode cX12_paintsAll 21 = .ok (.iconst (-1), 1) := by decide +kernel
theorem dX12_paintsAll_22 : decode cX12_paintsAll 22 = .ok (.if_icmp .eq 44, 3) := by decide +kernel
theorem dX12_paintsAll_25 : decode cX12_paintsAll 25 = .ok (.aload_n 0, 1) := by decide +kernel
theorem dX12_paintsAll_26 : decode cX12_paintsAll 26 = .ok (.iload_n 2, 1) := by decide +kernel
theorem dX12_paintsAll_27 : decode cX12_paintsAll 27 = .ok (.invokevirtual 445, 3) := by decide +kernel
theorem dX12_paintsAll_30 : decode cX12_paintsAll 30 = .ok (.istore_n 3, 1) := by decide +kernel
theorem dX12_paintsAll_31 : decode cX12_paintsAll 31 = .ok (.iload_n 3, 1) := by decide +kernel
theorem dX12_paintsAll_32 : decode cX12_paintsAll 32 = .ok (.iconst (-1), 1) := by decide +kernel
theorem dX12_paintsAll_33 : decode cX12_paintsAll 33 = .ok (.if_icmp .eq 27, 3) := by decide +kernel
theorem dX12_paintsAll_36 : decode cX12_paintsAll 36 = .ok (.aload_n 0, 1) := by decide +kernel
theorem dX12_paintsAll_37 : decode cX12_paintsAll 37 = .ok (.iload_n 3, 1) := by decide +kernel
theorem dX12_paintsAll_38 : decode cX12_paintsAll 38 = .ok (.iload_n 2, 1) := by decide +kernel
theorem dX12_paintsAll_39 : decode cX12_paintsAll 39 = .ok (.invokevirtual 448, 3) := by decide +kernel
theorem dX12_paintsAll_42 : decode cX12_paintsAll 42 = .ok (.aload_n 0, 1) := by decide +kernel
theorem dX12_paintsAll_43 : decode cX12_paintsAll 43 = .ok (.getfield 22, 3) := by decide +kernel
theorem dX12_paintsAll_46 : decode cX12_paintsAll 46 = .ok (.iload_n 2, 1) := by decide +kernel
theorem dX12_paintsAll_47 : decode cX12_paintsAll 47 = .ok (.dup2, 1) := by decide +kernel
theorem dX12_paintsAll_48 : decode cX12_paintsAll 48 = .ok (.iaload, 1) := by decide +kernel
theorem dX12_paintsAll_49 : decode cX12_paintsAll 49 = .ok (.aload_n 0, 1) := by decide +kernel
theorem dX12_paintsAll_50 : decode cX12_paintsAll 50 = .ok (.getfield 9, 3) := by decide +kernel
theorem dX12_paintsAll_53 : decode cX12_paintsAll 53 = .ok (.iconst 2, 1) := by decide +kernel
theorem dX12_paintsAll_54 : decode cX12_paintsAll 54 = .ok (.iaload, 1) := by decide +kernel
theorem dX12_paintsAll_55 : decode cX12_paintsAll 55 = .ok (.isub, 1) := by decide +kernel
theorem dX12_paintsAll_56 : decode cX12_paintsAll 56 = .ok (.iastore, 1) := by decide +kernel
theorem dX12_paintsAll_57 : decode cX12_paintsAll 57 = .ok (.iinc 1 1, 3) := by decide +kernel
theorem dX12_paintsAll_60 : decode cX12_paintsAll 60 = .ok (.iinc 2 1, 3) := by decide +kernel
theorem dX12_paintsAll_63 : decode cX12_paintsAll 63 = .ok (.goto (-59), 3) := by decide +kernel
theorem dX12_paintsAll_66 : decode cX12_paintsAll 66 = .ok (.iload_n 1, 1) := by decide +kernel
theorem dX12_paintsAll_67 : decode cX12_paintsAll 67 = .ok (.ireturn, 1) := by decide +kernel
theorem dX12_washes_0 : decode cX12_washes 0 = .ok (.iconst 0, 1) := by decide +kernel
theorem dX12_washes_1 : decode cX12_washes 1 = .ok (.istore_n 1, 1) := by decide +kernel
theorem dX12_washes_2 : decode cX12_washes 2 = .ok (.iload_n 1, 1) := by decide +kernel
theorem dX12_washes_3 : decode cX12_washes 3 = .ok (.aload_n 0, 1) := by decide +kernel
theorem dX12_washes_4 : decode cX12_washes 4 = .ok (.getfield 9, 3) := by decide +kernel
theorem dX12_washes_7 : decode cX12_washes 7 = .ok (.iconst 4, 1) := by decide +kernel
theorem dX12_washes_8 : decode cX12_washes 8 = .ok (.iaload, 1) := by decide +kernel
theorem dX12_washes_9 : decode cX12_washes 9 = .ok (.if_icmp .ge 30, 3) := by decide +kernel
theorem dX12_washes_12 : decode cX12_washes 12 = .ok (.aload_n 0, 1) := by decide +kernel
theorem dX12_washes_13 : decode cX12_washes 13 = .ok (.iload_n 1, 1) := by decide +kernel
theorem dX12_washes_14 : decode cX12_washes 14 = .ok (.invokevirtual 414, 3) := by decide +kernel
theorem dX12_washes_17 : decode cX12_washes 17 = .ok (.ifCond .eq 16, 3) := by decide +kernel
theorem dX12_washes_20 : decode cX12_washes 20 = .ok (.aload_n 0, 1) := by decide +kernel
theorem dX12_washes_21 : decode cX12_washes 21 = .ok (.getfield 31, 3) := by decide +kernel
theorem dX12_washes_24 : decode cX12_washes 24 = .ok (.iload_n 1, 1) := by decide +kernel
theorem dX12_washes_25 : decode cX12_washes 25 = .ok (.dup2, 1) := by decide +kernel
theorem dX12_washes_26 : decode cX12_washes 26 = .ok (.iaload, 1) := by decide +kernel
theorem dX12_washes_27 : decode cX12_washes 27 = .ok (.iconst 1, 1) := by decide +kernel
theorem dX12_washes_28 : decode cX12_washes 28 = .ok (.isub, 1) := by decide +kernel
theorem dX12_washes_29 : decode cX12_washes 29 = .ok (.iastore, 1) := by decide +kernel
theorem dX12_washes_30 : decode cX12_washes 30 = .ok (.goto (-18), 3) := by decide +kernel
theorem dX12_washes_33 : decode cX12_washes 33 = .ok (.iinc 1 1, 3) := by decide +kernel
theorem dX12_washes_36 : decode cX12_washes 36 = .ok (.goto (-34), 3) := by decide +kernel
theorem dX12_washes_39 : decode cX12_washes 39 = .ok (.return_, 1) := by decide +kernel
theorem dX12_ends_0 : decode cX12_ends 0 = .ok (.aload_n 0, 1) := by decide +kernel
theorem dX12_ends_1 : decode cX12_ends 1 = .ok (.aload_n 0, 1) := by decide +kernel
theorem dX12_ends_2 : decode cX12_ends 2 = .ok (.getfield 9, 3) := by decide +kernel
theorem dX12_ends_5 : decode cX12_ends 5 = .ok (.bipush 9, 2) := by decide +kernel
theorem dX12_ends_7 : decode cX12_ends 7 = .ok (.iaload, 1) := by decide +kernel
theorem dX12_ends_8 : decode cX12_ends 8 = .ok (.invokevirtual 432, 3) := by decide +kernel
theorem dX12_ends_11 : decode cX12_ends 11 = .ok (.ifCond .eq 7, 3) := by decide +kernel
theorem dX12_ends_14 : decode cX12_ends 14 = .ok (.aload_n 0, 1) := by decide +kernel
theorem dX12_ends_15 : decode cX12_ends 15 = .ok (.invokevirtual 451, 3) := by decide +kernel
theorem dX12_ends_18 : decode cX12_ends 18 = .ok (.aload_n 0, 1) := by decide +kernel
theorem dX12_ends_19 : decode cX12_ends 19 = .ok (.getfield 9, 3) := by decide +kernel
theorem dX12_ends_22 : decode cX12_ends 22 = .ok (.bipush 9, 2) := by decide +kernel
theorem dX12_ends_24 : decode cX12_ends 24 = .ok (.dup2, 1) := by decide +kernel
theorem dX12_ends_25 : decode cX12_ends 25 = .ok (.iaload, 1) := by decide +kernel
theorem dX12_ends_26 : decode cX12_ends 26 = .ok (.iconst 1, 1) := by decide +kernel
theorem dX12_ends_27 : decode cX12_ends 27 = .ok (.iadd, 1) := by decide +kernel
theorem dX12_ends_28 : decode cX12_ends 28 = .ok (.iastore, 1) := by decide +kernel
theorem dX12_ends_29 : decode cX12_ends 29 = .ok (.iconst 0, 1) := by decide +kernel
theorem dX12_ends_30 : decode cX12_ends 30 = .ok (.istore_n 1, 1) := by decide +kernel
theorem dX12_ends_31 : decode cX12_ends 31 = .ok (.iload_n 1, 1) := by decide +kernel
theorem dX12_ends_32 : decode cX12_ends 32 = .ok (.aload_n 0, 1) := by decide +kernel
theorem dX12_ends_33 : decode cX12_ends 33 = .ok (.getfield 9, 3) := by decide +kernel
theorem dX12_ends_36 : decode cX12_ends 36 = .ok (.iconst 3, 1) := by decide +kernel
theorem dX12_ends_37 : decode cX12_ends 37 = .ok (.iaload, 1) := by decide +kernel
theorem dX12_ends_38 : decode cX12_ends 38 = .ok (.if_icmp .ge 94, 3) := by decide +kernel
theorem dX12_ends_41 : decode cX12_ends 41 = .ok (.aload_n 0, 1) := by decide +kernel
theorem dX12_ends_42 : decode cX12_ends 42 = .ok (.getfield 9, 3) := by decide +kernel
theorem dX12_ends_45 : decode cX12_ends 45 = .ok (.bipush 9, 2) := by decide +kernel
theorem dX12_ends_47 : decode cX12_ends 47 = .ok (.iaload, 1) := by decide +kernel
theorem dX12_ends_48 : decode cX12_ends 48 = .ok (.bipush 24, 2) := by decide +kernel
theorem dX12_ends_50 : decode cX12_ends 50 = .ok (.irem, 1) := by decide +kernel
theorem dX12_ends_51 : decode cX12_ends 51 = .ok (.bipush 12, 2) := by decide +kernel
theorem dX12_ends_53 : decode cX12_ends 53 = .ok (.if_icmp .ne 79, 3) := by decide +kernel
theorem dX12_ends_56 : decode cX12_ends 56 = .ok (.aload_n 0, 1) := by decide +kernel
theorem dX12_ends_57 : decode cX12_ends 57 = .ok (.iload_n 1, 1) := by decide +kernel
theorem dX12_ends_58 : decode cX12_ends 58 = .ok (.invokevirtual 420, 3) := by decide +kernel
theorem dX12_ends_61 : decode cX12_ends 61 = .ok (.istore_n 2, 1) := by decide +kernel
theorem dX12_ends_62 : decode cX12_ends 62 = .ok (.iload_n 2, 1) := by decide +kernel
theorem dX12_ends_63 : decode cX12_ends 63 = .ok (.iconst (-1), 1) := by decide +kernel
theorem dX12_ends_64 : decode cX12_ends 64 = .ok (.if_icmp .eq 62, 3) := by decide +kernel
theorem dX12_ends_67 : decode cX12_ends 67 = .ok (.aload_n 0, 1) := by decide +kernel
theorem dX12_ends_68 : decode cX12_ends 68 = .ok (.getfield 127, 3) := by decide +kernel
theorem dX12_ends_71 : decode cX12_ends 71 = .ok (.iload_n 2, 1) := by decide +kernel
theorem dX12_ends_72 : decode cX12_ends 72 = .ok (.dup2, 1) := by decide +kernel
theorem dX12_ends_73 : decode cX12_ends 73 = .ok (.iaload, 1) := by decide +kernel
theorem dX12_ends_74 : decode cX12_ends 74 = .ok (.aload_n 0, 1) := by decide +kernel
theorem dX12_ends_75 : decode cX12_ends 75 = .ok (.getfield 16, 3) := by decide +kernel
theorem dX12_ends_78 : decode cX12_ends 78 = .ok (.iload_n 1, 1) := by decide +kernel
theorem dX12_ends_79 : decode cX12_ends 79 = .ok (.iaload, 1) := by decide +kernel
theorem dX12_ends_80 : decode cX12_ends 80 = .ok (.iadd, 1) := by decide +kernel
theorem dX12_ends_81 : decode cX12_ends 81 = .ok (.iastore, 1) := by decide +kernel
theorem dX12_ends_82 : decode cX12_ends 82 = .ok (.aload_n 0, 1) := by decide +kernel
theorem dX12_ends_83 : decode cX12_ends 83 = .ok (.getfield 22, 3) := by decide +kernel
theorem dX12_ends_86 : decode cX12_ends 86 = .ok (.iload_n 2, 1) := by decide +kernel
theorem dX12_ends_87 : decode cX12_ends 87 = .ok (.aload_n 0, 1) := by decide +kernel
theorem dX12_ends_88 : decode cX12_ends 88 = .ok (.getfield 22, 3) := by decide +kernel
theorem dX12_ends_91 : decode cX12_ends 91 = .ok (.iload_n 2, 1) := by decide +kernel
theorem dX12_ends_92 : decode cX12_ends 92 = .ok (.iaload, 1) := by decide +kernel
theorem dX12_ends_93 : decode cX12_ends 93 = .ok (.aload_n 0, 1) := by decide +kernel
theorem dX12_ends_94 : decode cX12_ends 94 = .ok (.getfield 16, 3) := by decide +kernel
theorem dX12_ends_97 : decode cX12_ends 97 = .ok (.iload_n 1, 1) := by decide +kernel
theorem dX12_ends_98 : decode cX12_ends 98 = .ok (.iaload, 1) := by decide +kernel
theorem dX12_ends_99 : decode cX12_ends 99 = .ok (.iadd, 1) := by decide +kernel
theorem dX12_ends_100 : decode cX12_ends 100 = .ok (.sipush 999, 3) := by decide +kernel
theorem dX12_ends_103 : decode cX12_ends 103 = .ok (.if_icmp .le 9, 3) := by decide +kernel
theorem dX12_ends_106 : decode cX12_ends 106 = .ok (.sipush 999, 3) := by decide +kernel
theorem dX12_ends_109 : decode cX12_ends 109 = .ok (.goto 16, 3) := by decide +kernel
theorem dX12_ends_112 : decode cX12_ends 112 = .ok (.aload_n 0, 1) := by decide +kernel
theorem dX12_ends_113 : decode cX12_ends 113 = .ok (.getfield 22, 3) := by decide +kernel
theorem dX12_ends_116 : decode cX12_ends 116 = .ok (.iload_n 2, 1) := by decide +kernel
theorem dX12_ends_117 : decode cX12_ends 117 = .ok (.iaload, 1) := by decide +kernel
theorem dX12_ends_118 : decode cX12_ends 118 = .ok (.aload_n 0, 1) := by decide +kernel
theorem dX12_ends_119 : decode cX12_ends 119 = .ok (.getfield 16, 3) := by decide +kernel
theorem dX12_ends_122 : decode cX12_ends 122 = .ok (.iload_n 1, 1) := by decide +kernel
theorem dX12_ends_123 : decode cX12_ends 123 = .ok (.iaload, 1) := by decide +kernel
theorem dX12_ends_124 : decode cX12_ends 124 = .ok (.iadd, 1) := by decide +kernel
theorem dX12_ends_125 : decode cX12_ends 125 = .ok (.iastore, 1) := by decide +kernel
theorem dX12_ends_126 : decode cX12_ends 126 = .ok (.iinc 1 1, 3) := by decide +kernel
theorem dX12_ends_129 : decode cX12_ends 129 = .ok (.goto (-98), 3) := by decide +kernel
theorem dX12_ends_132 : decode cX12_ends 132 = .ok (.return_, 1) := by decide +kernel
theorem dX12_goes_0 : decode cX12_goes 0 = .ok (.iconst 0, 1) := by decide +kernel
theorem dX12_goes_1 : decode cX12_goes 1 = .ok (.istore_n 2, 1) := by decide +kernel
theorem dX12_goes_2 : decode cX12_goes 2 = .ok (.iload_n 2, 1) := by decide +kernel
theorem dX12_goes_3 : decode cX12_goes 3 = .ok (.iload_n 1, 1) := by decide +kernel
theorem dX12_goes_4 : decode cX12_goes 4 = .ok (.if_icmp .ge 18, 3) := by decide +kernel
theorem dX12_goes_7 : decode cX12_goes 7 = .ok (.aload_n 0, 1) := by decide +kernel
theorem dX12_goes_8 : decode cX12_goes 8 = .ok (.invokevirtual 454, 3) := by decide +kernel
theorem dX12_goes_11 : decode cX12_goes 11 = .ok (.pop, 1) := by decide +kernel
theorem dX12_goes_12 : decode cX12_goes 12 = .ok (.aload_n 0, 1) := by decide +kernel
theorem dX12_goes_13 : decode cX12_goes 13 = .ok (.invokevirtual 457, 3) := by decide +kernel
theorem dX12_goes_16 : decode cX12_goes 16 = .ok (.iinc 2 1, 3) := by decide +kernel
theorem dX12_goes_19 : decode cX12_goes 19 = .ok (.goto (-17), 3) := by decide +kernel
theorem dX12_goes_22 : decode cX12_goes 22 = .ok (.return_, 1) := by decide +kernel
theorem dX12_moves_0 : decode cX12_moves 0 = .ok (.aload_n 0, 1) := by decide +kernel
theorem dX12_moves_1 : decode cX12_moves 1 = .ok (.getfield 460, 3) := by decide +kernel
theorem dX12_moves_4 : decode cX12_moves 4 = .ok (.ifCond .eq 15, 3) := by decide +kernel
theorem dX12_moves_7 : decode cX12_moves 7 = .ok (.aload_n 0, 1) := by decide +kernel
theorem dX12_moves_8 : decode cX12_moves 8 = .ok (.getfield 130, 3) := by decide +kernel
theorem dX12_moves_11 : decode cX12_moves 11 = .ok (.aload_n 0, 1) := by decide +kernel
theorem dX12_moves_12 : decode cX12_moves 12 = .ok (.getfield 464, 3) := by decide +kernel
theorem dX12_moves_15 : decode cX12_moves 15 = .ok (.iaload, 1) := by decide +kernel
theorem dX12_moves_16 : decode cX12_moves 16 = .ok (.goto 4, 3) := by decide +kernel
theorem dX12_moves_19 : decode cX12_moves 19 = .ok (.iload_n 1, 1) := by decide +kernel
theorem dX12_moves_20 : decode cX12_moves 20 = .ok (.istore_n 2, 1) := by decide +kernel
theorem dX12_moves_21 : decode cX12_moves 21 = .ok (.aload_n 0, 1) := by decide +kernel
theorem dX12_moves_22 : decode cX12_moves 22 = .ok (.getfield 130, 3) := by decide +kernel
theorem dX12_moves_25 : decode cX12_moves 25 = .ok (.aload_n 0, 1) := by decide +kernel
theorem dX12_moves_26 : decode cX12_moves 26 = .ok (.getfield 464, 3) := by decide +kernel
theorem dX12_moves_29 : decode cX12_moves 29 = .ok (.iload_n 2, 1) := by decide +kernel
theorem dX12_moves_30 : decode cX12_moves 30 = .ok (.iastore, 1) := by decide +kernel
theorem dX12_moves_31 : decode cX12_moves 31 = .ok (.aload_n 0, 1) := by decide +kernel
theorem dX12_moves_32 : decode cX12_moves 32 = .ok (.dup, 1) := by decide +kernel
theorem dX12_moves_33 : decode cX12_moves 33 = .ok (.getfield 464, 3) := by decide +kernel
theorem dX12_moves_36 : decode cX12_moves 36 = .ok (.iconst 1, 1) := by decide +kernel
theorem dX12_moves_37 : decode cX12_moves 37 = .ok (.iadd, 1) := by decide +kernel
theorem dX12_moves_38 : decode cX12_moves 38 = .ok (.putfield 464, 3) := by decide +kernel
theorem dX12_moves_41 : decode cX12_moves 41 = .ok (.iload_n 2, 1) := by decide +kernel
theorem dX12_moves_42 : decode cX12_moves 42 = .ok (.ireturn, 1) := by decide +kernel
theorem dX12_movesRow_0 : decode cX12_movesRow 0 = .ok (.iconst 0, 1) := by decide +kernel
theorem dX12_movesRow_1 : decode cX12_movesRow 1 = .ok (.istore_n 2, 1) := by decide +kernel
theorem dX12_movesRow_2 : decode cX12_movesRow 2 = .ok (.iload_n 2, 1) := by decide +kernel
theorem dX12_movesRow_3 : decode cX12_movesRow 3 = .ok (.aload_n 1, 1) := by decide +kernel
theorem dX12_movesRow_4 : decode cX12_movesRow 4 = .ok (.arraylength, 1) := by decide +kernel
theorem dX12_movesRow_5 : decode cX12_movesRow 5 = .ok (.if_icmp .ge 19, 3) := by decide +kernel
theorem dX12_movesRow_8 : decode cX12_movesRow 8 = .ok (.aload_n 1, 1) := by decide +kernel
theorem dX12_movesRow_9 : decode cX12_movesRow 9 = .ok (.iload_n 2, 1) := by decide +kernel
theorem dX12_movesRow_10 : decode cX12_movesRow 10 = .ok (.aload_n 0, 1) := by decide +kernel
theorem dX12_movesRow_11 : decode cX12_movesRow 11 = .ok (.aload_n 1, 1) := by decide +kernel
theorem dX12_movesRow_12 : decode cX12_movesRow 12 = .ok (.iload_n 2, 1) := by decide +kernel
theorem dX12_movesRow_13 : decode cX12_movesRow 13 = .ok (.iaload, 1) := by decide +kernel
theorem dX12_movesRow_14 : decode cX12_movesRow 14 = .ok (.invokevirtual 467, 3) := by decide +kernel
theorem dX12_movesRow_17 : decode cX12_movesRow 17 = .ok (.iastore, 1) := by decide +kernel
theorem dX12_movesRow_18 : decode cX12_movesRow 18 = .ok (.iinc 2 1, 3) := by decide +kernel
theorem dX12_movesRow_21 : decode cX12_movesRow 21 = .ok (.goto (-19), 3) := by decide +kernel
theorem dX12_movesRow_24 : decode cX12_movesRow 24 = .ok (.return_, 1) := by decide +kernel
theorem dX12_movesAll_0 : decode cX12_movesAll 0 = .ok (.aload_n 0, 1) := by decide +kernel
theorem dX12_movesAll_1 : decode cX12_movesAll 1 = .ok (.sipush 182, 3) := by decide +kernel
theorem dX12_movesAll_4 : decode cX12_movesAll 4 = .ok (.iload_n 1, 1) := by decide +kernel
theorem dX12_movesAll_5 : decode cX12_movesAll 5 = .ok (.imul, 1) := by decide +kernel
theorem dX12_movesAll_6 : decode cX12_movesAll 6 = .ok (.putfield 464, 3) := by decide +kernel
theorem dX12_movesAll_9 : decode cX12_movesAll 9 = .ok (.aload_n 0, 1) := by decide +kernel
theorem dX12_movesAll_10 : decode cX12_movesAll 10 = .ok (.iload_n 2, 1) := by decide +kernel
theorem dX12_movesAll_11 : decode cX12_movesAll 11 = .ok (.putfield 460, 3) := by decide +kernel
theorem dX12_movesAll_14 : decode cX12_movesAll 14 = .ok (.aload_n 0, 1) := by decide +kernel
theorem dX12_movesAll_15 : decode cX12_movesAll 15 = .ok (.getfield 9, 3) := by decide +kernel
theorem dX12_movesAll_18 : decode cX12_movesAll 18 = .ok (.bipush 8, 2) := by decide +kernel
theorem dX12_movesAll_20 : decode cX12_movesAll 20 = .ok (.aload_n 0, 1) := by decide +kernel
theorem dX12_movesAll_21 : decode cX12_movesAll 21 = .ok (.aload_n 0, 1) := by decide +kernel
theorem dX12_movesAll_22 : decode cX12_movesAll 22 = .ok (.getfield 9, 3) := by decide +kernel
theorem dX12_movesAll_25 : decode cX12_movesAll 25 = .ok (.bipush 8, 2) := by decide +kernel
theorem dX12_movesAll_27 : decode cX12_movesAll 27 = .ok (.iaload, 1) := by decide +kernel
theorem dX12_movesAll_28 : decode cX12_movesAll 28 = .ok (.invokevirtual 467, 3) := by decide +kernel
theorem dX12_movesAll_31 : decode cX12_movesAll 31 = .ok (.iastore, 1) := by decide +kernel
theorem dX12_movesAll_32 : decode cX12_movesAll 32 = .ok (.aload_n 0, 1) := by decide +kernel
theorem dX12_movesAll_33 : decode cX12_movesAll 33 = .ok (.getfield 9, 3) := by decide +kernel
theorem dX12_movesAll_36 : decode cX12_movesAll 36 = .ok (.bipush 9, 2) := by decide +kernel
theorem dX12_movesAll_38 : decode cX12_movesAll 38 = .ok (.aload_n 0, 1) := by decide +kernel
theorem dX12_movesAll_39 : decode cX12_movesAll 39 = .ok (.aload_n 0, 1) := by decide +kernel
theorem dX12_movesAll_40 : decode cX12_movesAll 40 = .ok (.getfield 9, 3) := by decide +kernel
theorem dX12_movesAll_43 : decode cX12_movesAll 43 = .ok (.bipush 9, 2) := by decide +kernel
theorem dX12_movesAll_45 : decode cX12_movesAll 45 = .ok (.iaload, 1) := by decide +kernel
theorem dX12_movesAll_46 : decode cX12_movesAll 46 = .ok (.invokevirtual 467, 3) := by decide +kernel
theorem dX12_movesAll_49 : decode cX12_movesAll 49 = .ok (.iastore, 1) := by decide +kernel
theorem dX12_movesAll_50 : decode cX12_movesAll 50 = .ok (.aload_n 0, 1) := by decide +kernel
theorem dX12_movesAll_51 : decode cX12_movesAll 51 = .ok (.aload_n 0, 1) := by decide +kernel
theorem dX12_movesAll_52 : decode cX12_movesAll 52 = .ok (.getfield 22, 3) := by decide +kernel
theorem dX12_movesAll_55 : decode cX12_movesAll 55 = .ok (.invokevirtual 470, 3) := by decide +kernel
theorem dX12_movesAll_58 : decode cX12_movesAll 58 = .ok (.aload_n 0, 1) := by decide +kernel
theorem dX12_movesAll_59 : decode cX12_movesAll 59 = .ok (.aload_n 0, 1) := by decide +kernel
theorem dX12_movesAll_60 : decode cX12_movesAll 60 = .ok (.getfield 31, 3) := by decide +kernel
theorem dX12_movesAll_63 : decode cX12_movesAll 63 = .ok (.invokevirtual 470, 3) := by decide +kernel
theorem dX12_movesAll_66 : decode cX12_movesAll 66 = .ok (.aload_n 0, 1) := by decide +kernel
theorem dX12_movesAll_67 : decode cX12_movesAll 67 = .ok (.aload_n 0, 1) := by decide +kernel
theorem dX12_movesAll_68 : decode cX12_movesAll 68 = .ok (.getfield 34, 3) := by decide +kernel
theorem dX12_movesAll_71 : decode cX12_movesAll 71 = .ok (.invokevirtual 470, 3) := by decide +kernel
theorem dX12_movesAll_74 : decode cX12_movesAll 74 = .ok (.aload_n 0, 1) := by decide +kernel
theorem dX12_movesAll_75 : decode cX12_movesAll 75 = .ok (.aload_n 0, 1) := by decide +kernel
theorem dX12_movesAll_76 : decode cX12_movesAll 76 = .ok (.getfield 37, 3) := by decide +kernel
theorem dX12_movesAll_79 : decode cX12_movesAll 79 = .ok (.invokevirtual 470, 3) := by decide +kernel
theorem dX12_movesAll_82 : decode cX12_movesAll 82 = .ok (.return_, 1) := by decide +kernel
theorem dX12_keepsAct_0 : decode cX12_keepsAct 0 = .ok (.aload_n 0, 1) := by decide +kernel
theorem dX12_keepsAct_1 : decode cX12_keepsAct 1 = .ok (.getfield 349, 3) := by decide +kernel
theorem dX12_keepsAct_4 : decode cX12_keepsAct 4 = .ok (.bipush 20, 2) := by decide +kernel
theorem dX12_keepsAct_6 : decode cX12_keepsAct 6 = .ok (.if_icmp .ne 46, 3) := by decide +kernel
theorem dX12_keepsAct_9 : decode cX12_keepsAct 9 = .ok (.sipush 182, 3) := by decide +kernel
theorem dX12_keepsAct_12 : decode cX12_keepsAct 12 = .ok (.istore_n 1, 1) := by decide +kernel
theorem dX12_keepsAct_13 : decode cX12_keepsAct 13 = .ok (.iload_n 1, 1) := by decide +kernel
theorem dX12_keepsAct_14 : decode cX12_keepsAct 14 = .ok (.sipush 3640, 3) := by decide +kernel
theorem dX12_keepsAct_17 : decode cX12_keepsAct 17 = .ok (.if_icmp .ge 25, 3) := by decide +kernel
theorem dX12_keepsAct_20 : decode cX12_keepsAct 20 = .ok (.aload_n 0, 1) := by decide +kernel
theorem dX12_keepsAct_21 : decode cX12_keepsAct 21 = .ok (.getfield 130, 3) := by decide +kernel
theorem dX12_keepsAct_24 : decode cX12_keepsAct 24 = .ok (.iload_n 1, 1) := by decide +kernel
theorem dX12_keepsAct_25 : decode cX12_keepsAct 25 = .ok (.sipush 182, 3) := by decide +kernel
theorem dX12_keepsAct_28 : decode cX12_keepsAct 28 = .ok (.isub, 1) := by decide +kernel
theorem dX12_keepsAct_29 : decode cX12_keepsAct 29 = .ok (.aload_n 0, 1) := by decide +kernel
theorem dX12_keepsAct_30 : decode cX12_keepsAct 30 = .ok (.getfield 130, 3) := by decide +kernel
theorem dX12_keepsAct_33 : decode cX12_keepsAct 33 = .ok (.iload_n 1, 1) := by decide +kernel
theorem dX12_keepsAct_34 : decode cX12_keepsAct 34 = .ok (.iaload, 1) := by decide +kernel
theorem dX12_keepsAct_35 : decode cX12_keepsAct 35 = .ok (.iastore, 1) := by decide +kernel
theorem dX12_keepsAct_36 : decode cX12_keepsAct 36 = .ok (.iinc 1 1, 3) := by decide +kernel
theorem dX12_keepsAct_39 : decode cX12_keepsAct 39 = .ok (.goto (-26), 3) := by decide +kernel
theorem dX12_keepsAct_42 : decode cX12_keepsAct 42 = .ok (.aload_n 0, 1) := by decide +kernel
theorem dX12_keepsAct_43 : decode cX12_keepsAct 43 = .ok (.dup, 1) := by decide +kernel
theorem dX12_keepsAct_44 : decode cX12_keepsAct 44 = .ok (.getfield 349, 3) := by decide +kernel
theorem dX12_keepsAct_47 : decode cX12_keepsAct 47 = .ok (.iconst 1, 1) := by decide +kernel
theorem dX12_keepsAct_48 : decode cX12_keepsAct 48 = .ok (.isub, 1) := by decide +kernel
theorem dX12_keepsAct_49 : decode cX12_keepsAct 49 = .ok (.putfield 349, 3) := by decide +kernel
theorem dX12_keepsAct_52 : decode cX12_keepsAct 52 = .ok (.aload_n 0, 1) := by decide +kernel
theorem dX12_keepsAct_53 : decode cX12_keepsAct 53 = .ok (.aload_n 0, 1) := by decide +kernel
theorem dX12_keepsAct_54 : decode cX12_keepsAct 54 = .ok (.getfield 349, 3) := by decide +kernel
theorem dX12_keepsAct_57 : decode cX12_keepsAct 57 = .ok (.iconst 0, 1) := by decide +kernel
theorem dX12_keepsAct_58 : decode cX12_keepsAct 58 = .ok (.invokevirtual 474, 3) := by decide +kernel
theorem dX12_keepsAct_61 : decode cX12_keepsAct 61 = .ok (.aload_n 0, 1) := by decide +kernel
theorem dX12_keepsAct_62 : decode cX12_keepsAct 62 = .ok (.dup, 1) := by decide +kernel
theorem dX12_keepsAct_63 : decode cX12_keepsAct 63 = .ok (.getfield 349, 3) := by decide +kernel
theorem dX12_keepsAct_66 : decode cX12_keepsAct 66 = .ok (.iconst 1, 1) := by decide +kernel
theorem dX12_keepsAct_67 : decode cX12_keepsAct 67 = .ok (.iadd, 1) := by decide +kernel
theorem dX12_keepsAct_68 : decode cX12_keepsAct 68 = .ok (.putfield 349, 3) := by decide +kernel
theorem dX12_keepsAct_71 : decode cX12_keepsAct 71 = .ok (.return_, 1) := by decide +kernel
theorem dX12_undo_0 : decode cX12_undo 0 = .ok (.aload_n 0, 1) := by decide +kernel
theorem dX12_undo_1 : decode cX12_undo 1 = .ok (.getfield 349, 3) := by decide +kernel
theorem dX12_undo_4 : decode cX12_undo 4 = .ok (.ifCond .ne 6, 3) := by decide +kernel
theorem dX12_undo_7 : decode cX12_undo 7 = .ok (.bipush (-2), 2) := by decide +kernel
theorem dX12_undo_9 : decode cX12_undo 9 = .ok (.ireturn, 1) := by decide +kernel
theorem dX12_undo_10 : decode cX12_undo 10 = .ok (.aload_n 0, 1) := by decide +kernel
theorem dX12_undo_11 : decode cX12_undo 11 = .ok (.dup, 1) := by decide +kernel
theorem dX12_undo_12 : decode cX12_undo 12 = .ok (.getfield 349, 3) := by decide +kernel
theorem dX12_undo_15 : decode cX12_undo 15 = .ok (.iconst 1, 1) := by decide +kernel
theorem dX12_undo_16 : decode cX12_undo 16 = .ok (.isub, 1) := by decide +kernel
theorem dX12_undo_17 : decode cX12_undo 17 = .ok (.putfield 349, 3) := by decide +kernel
theorem dX12_undo_20 : decode cX12_undo 20 = .ok (.aload_n 0, 1) := by decide +kernel
theorem dX12_undo_21 : decode cX12_undo 21 = .ok (.aload_n 0, 1) := by decide +kernel
theorem dX12_undo_22 : decode cX12_undo 22 = .ok (.getfield 349, 3) := by decide +kernel
theorem dX12_undo_25 : decode cX12_undo 25 = .ok (.iconst 1, 1) := by decide +kernel
theorem dX12_undo_26 : decode cX12_undo 26 = .ok (.invokevirtual 474, 3) := by decide +kernel
theorem dX12_undo_29 : decode cX12_undo 29 = .ok (.aload_n 0, 1) := by decide +kernel
theorem dX12_undo_30 : decode cX12_undo 30 = .ok (.getfield 349, 3) := by decide +kernel
theorem dX12_undo_33 : decode cX12_undo 33 = .ok (.ireturn, 1) := by decide +kernel
theorem dX12_hour_0 : decode cX12_hour 0 = .ok (.aload_n 0, 1) := by decide +kernel
theorem dX12_hour_1 : decode cX12_hour 1 = .ok (.invokevirtual 429, 3) := by decide +kernel
theorem dX12_hour_4 : decode cX12_hour 4 = .ok (.ifCond .eq 16, 3) := by decide +kernel
theorem dX12_hour_7 : decode cX12_hour 7 = .ok (.aload_n 0, 1) := by decide +kernel
theorem dX12_hour_8 : decode cX12_hour 8 = .ok (.getfield 9, 3) := by decide +kernel
theorem dX12_hour_11 : decode cX12_hour 11 = .ok (.bipush 9, 2) := by decide +kernel
theorem dX12_hour_13 : decode cX12_hour 13 = .ok (.iaload, 1) := by decide +kernel
theorem dX12_hour_14 : decode cX12_hour 14 = .ok (.sipush 999, 3) := by decide +kernel
theorem dX12_hour_17 : decode cX12_hour 17 = .ok (.if_icmp .ne 5, 3) := by decide +kernel
theorem dX12_hour_20 : decode cX12_hour 20 = .ok (.iconst (-1), 1) := by decide +kernel
theorem dX12_hour_21 : decode cX12_hour 21 = .ok (.ireturn, 1) := by decide +kernel
theorem dX12_hour_22 : decode cX12_hour 22 = .ok (.aload_n 0, 1) := by decide +kernel
theorem dX12_hour_23 : decode cX12_hour 23 = .ok (.invokevirtual 478, 3) := by decide +kernel
theorem dX12_hour_26 : decode cX12_hour 26 = .ok (.aload_n 0, 1) := by decide +kernel
theorem dX12_hour_27 : decode cX12_hour 27 = .ok (.invokevirtual 454, 3) := by decide +kernel
theorem dX12_hour_30 : decode cX12_hour 30 = .ok (.istore_n 1, 1) := by decide +kernel
theorem dX12_hour_31 : decode cX12_hour 31 = .ok (.aload_n 0, 1) := by decide +kernel
theorem dX12_hour_32 : decode cX12_hour 32 = .ok (.invokevirtual 457, 3) := by decide +kernel
theorem dX12_hour_35 : decode cX12_hour 35 = .ok (.iload_n 1, 1) := by decide +kernel
theorem dX12_hour_36 : decode cX12_hour 36 = .ok (.ireturn, 1) := by decide +kernel
theorem dX12_paint_0 : decode cX12_paint 0 = .ok (.aload_n 0, 1) := by decide +kernel
theorem dX12_paint_1 : decode cX12_paint 1 = .ok (.iload_n 1, 1) := by decide +kernel
theorem dX12_paint_2 : decode cX12_paint 2 = .ok (.invokevirtual 405, 3) := by decide +kernel
theorem dX12_paint_5 : decode cX12_paint 5 = .ok (.ifCond .eq 20, 3) := by decide +kernel
theorem dX12_paint_8 : decode cX12_paint 8 = .ok (.aload_n 0, 1) := by decide +kernel
theorem dX12_paint_9 : decode cX12_paint 9 = .ok (.iload_n 2, 1) := by decide +kernel
theorem dX12_paint_10 : decode cX12_paint 10 = .ok (.invokevirtual 423, 3) := by decide +kernel
theorem dX12_paint_13 : decode cX12_paint 13 = .ok (.ifCond .eq 12, 3) := by decide +kernel
theorem dX12_paint_16 : decode cX12_paint 16 = .ok (.aload_n 0, 1) := by decide +kernel
theorem dX12_paint_17 : decode cX12_paint 17 = .ok (.iload_n 1, 1) := by decide +kernel
theorem dX12_paint_18 : decode cX12_paint 18 = .ok (.iload_n 2, 1) := by decide +kernel
theorem dX12_paint_19 : decode cX12_paint 19 = .ok (.invokevirtual 435, 3) := by decide +kernel
theorem dX12_paint_22 : decode cX12_paint 22 = .ok (.ifCond .ne 5, 3) := by decide +kernel
theorem dX12_paint_25 : decode cX12_paint 25 = .ok (.iconst (-1), 1) := by decide +kernel
theorem dX12_paint_26 : decode cX12_paint 26 = .ok (.ireturn, 1) := by decide +kernel
theorem dX12_paint_27 : decode cX12_paint 27 = .ok (.aload_n 0, 1) := by decide +kernel
theorem dX12_paint_28 : decode cX12_paint 28 = .ok (.invokevirtual 478, 3) := by decide +kernel
theorem dX12_paint_31 : decode cX12_paint 31 = .ok (.aload_n 0, 1) := by decide +kernel
theorem dX12_paint_32 : decode cX12_paint 32 = .ok (.iload_n 1, 1) := by decide +kernel
theorem dX12_paint_33 : decode cX12_paint 33 = .ok (.iload_n 2, 1) := by decide +kernel
theorem dX12_paint_34 : decode cX12_paint 34 = .ok (.invokevirtual 448, 3) := by decide +kernel
theorem dX12_paint_37 : decode cX12_paint 37 = .ok (.aload_n 0, 1) := by decide +kernel
theorem dX12_paint_38 : decode cX12_paint 38 = .ok (.getfield 22, 3) := by decide +kernel
theorem dX12_paint_41 : decode cX12_paint 41 = .ok (.iload_n 2, 1) := by decide +kernel
theorem dX12_paint_42 : decode cX12_paint 42 = .ok (.dup2, 1) := by decide +kernel
theorem dX12_paint_43 : decode cX12_paint 43 = .ok (.iaload, 1) := by decide +kernel
theorem dX12_paint_44 : decode cX12_paint 44 = .ok (.aload_n 0, 1) := by decide +kernel
theorem dX12_paint_45 : decode cX12_paint 45 = .ok (.getfield 9, 3) := by decide +kernel
theorem dX12_paint_48 : decode cX12_paint 48 = .ok (.iconst 2, 1) := by decide +kernel
theorem dX12_paint_49 : decode cX12_paint 49 = .ok (.iaload, 1) := by decide +kernel
theorem dX12_paint_50 : decode cX12_paint 50 = .ok (.isub, 1) := by decide +kernel
theorem dX12_paint_51 : decode cX12_paint 51 = .ok (.iastore, 1) := by decide +kernel
theorem dX12_paint_52 : decode cX12_paint 52 = .ok (.aload_n 0, 1) := by decide +kernel
theorem dX12_paint_53 : decode cX12_paint 53 = .ok (.getfield 31, 3) := by decide +kernel
theorem dX12_paint_56 : decode cX12_paint 56 = .ok (.iload_n 1, 1) := by decide +kernel
theorem dX12_paint_57 : decode cX12_paint 57 = .ok (.iaload, 1) := by decide +kernel
theorem dX12_paint_58 : decode cX12_paint 58 = .ok (.ireturn, 1) := by decide +kernel
theorem dX12_scrape_0 : decode cX12_scrape 0 = .ok (.aload_n 0, 1) := by decide +kernel
theorem dX12_scrape_1 : decode cX12_scrape 1 = .ok (.iload_n 1, 1) := by decide +kernel
theorem dX12_scrape_2 : decode cX12_scrape 2 = .ok (.invokevirtual 405, 3) := by decide +kernel
theorem dX12_scrape_5 : decode cX12_scrape 5 = .ok (.ifCond .eq 12, 3) := by decide +kernel
theorem dX12_scrape_8 : decode cX12_scrape 8 = .ok (.aload_n 0, 1) := by decide +kernel
theorem dX12_scrape_9 : decode cX12_scrape 9 = .ok (.getfield 31, 3) := by decide +kernel
theorem dX12_scrape_12 : decode cX12_scrape 12 = .ok (.iload_n 1, 1) := by decide +kernel
theorem dX12_scrape_13 : decode cX12_scrape 13 = .ok (.iaload, 1) := by decide +kernel
theorem dX12_scrape_14 : decode cX12_scrape 14 = .ok (.ifCond .ne 5, 3) := by decide +kernel
theorem dX12_scrape_17 : decode cX12_scrape 17 = .ok (.iconst (-1), 1) := by decide +kernel
theorem dX12_scrape_18 : decode cX12_scrape 18 = .ok (.ireturn, 1) := by decide +kernel
theorem dX12_scrape_19 : decode cX12_scrape 19 = .ok (.aload_n 0, 1) := by decide +kernel
theorem dX12_scrape_20 : decode cX12_scrape 20 = .ok (.invokevirtual 478, 3) := by decide +kernel
theorem dX12_scrape_23 : decode cX12_scrape 23 = .ok (.aload_n 0, 1) := by decide +kernel
theorem dX12_scrape_24 : decode cX12_scrape 24 = .ok (.iload_n 1, 1) := by decide +kernel
theorem dX12_scrape_25 : decode cX12_scrape 25 = .ok (.invokevirtual 411, 3) := by decide +kernel
theorem dX12_scrape_28 : decode cX12_scrape 28 = .ok (.istore_n 2, 1) := by decide +kernel
theorem dX12_scrape_29 : decode cX12_scrape 29 = .ok (.aload_n 0, 1) := by decide +kernel
theorem dX12_scrape_30 : decode cX12_scrape 30 = .ok (.getfield 31, 3) := by decide +kernel
theorem dX12_scrape_33 : decode cX12_scrape 33 = .ok (.iload_n 1, 1) := by decide +kernel
theorem dX12_scrape_34 : decode cX12_scrape 34 = .ok (.dup2, 1) := by decide +kernel
theorem dX12_scrape_35 : decode cX12_scrape 35 = .ok (.iaload, 1) := by decide +kernel
theorem dX12_scrape_36 : decode cX12_scrape 36 = .ok (.iconst 1, 1) := by decide +kernel
theorem dX12_scrape_37 : decode cX12_scrape 37 = .ok (.isub, 1) := by decide +kernel
theorem dX12_scrape_38 : decode cX12_scrape 38 = .ok (.iastore, 1) := by decide +kernel
theorem dX12_scrape_39 : decode cX12_scrape 39 = .ok (.iload_n 2, 1) := by decide +kernel
theorem dX12_scrape_40 : decode cX12_scrape 40 = .ok (.ireturn, 1) := by decide +kernel
theorem dX12_vote_0 : decode cX12_vote 0 = .ok (.aload_n 0, 1) := by decide +kernel
theorem dX12_vote_1 : decode cX12_vote 1 = .ok (.iload_n 1, 1) := by decide +kernel
theorem dX12_vote_2 : decode cX12_vote 2 = .ok (.invokevirtual 417, 3) := by decide +kernel
theorem dX12_vote_5 : decode cX12_vote 5 = .ok (.ifCond .eq 11, 3) := by decide +kernel
theorem dX12_vote_8 : decode cX12_vote 8 = .ok (.aload_n 0, 1) := by decide +kernel
theorem dX12_vote_9 : decode cX12_vote 9 = .ok (.iload_n 1, 1) := by decide +kernel
theorem dX12_vote_10 : decode cX12_vote 10 = .ok (.invokevirtual 336, 3) := by decide +kernel
theorem dX12_vote_13 : decode cX12_vote 13 = .ok (.ifCond .eq 5, 3) := by decide +kernel
theorem dX12_vote_16 : decode cX12_vote 16 = .ok (.iconst (-1), 1) := by decide +kernel
theorem dX12_vote_17 : decode cX12_vote 17 = .ok (.ireturn, 1) := by decide +kernel
theorem dX12_vote_18 : decode cX12_vote 18 = .ok (.aload_n 0, 1) := by decide +kernel
theorem dX12_vote_19 : decode cX12_vote 19 = .ok (.invokevirtual 478, 3) := by decide +kernel
theorem dX12_vote_22 : decode cX12_vote 22 = .ok (.aload_n 0, 1) := by decide +kernel
theorem dX12_vote_23 : decode cX12_vote 23 = .ok (.getfield 9, 3) := by decide +kernel
theorem dX12_vote_26 : decode cX12_vote 26 = .ok (.bipush 8, 2) := by decide +kernel
theorem dX12_vote_28 : decode cX12_vote 28 = .ok (.dup2, 1) := by decide +kernel
theorem dX12_vote_29 : decode cX12_vote 29 = .ok (.iaload, 1) := by decide +kernel
theorem dX12_vote_30 : decode cX12_vote 30 = .ok (.iconst 1, 1) := by decide +kernel
theorem dX12_vote_31 : decode cX12_vote 31 = .ok (.iload_n 1, 1) := by decide +kernel
theorem dX12_vote_32 : decode cX12_vote 32 = .ok (.ishl, 1) := by decide +kernel
theorem dX12_vote_33 : decode cX12_vote 33 = .ok (.ior, 1) := by decide +kernel
theorem dX12_vote_34 : decode cX12_vote 34 = .ok (.iastore, 1) := by decide +kernel
theorem dX12_vote_35 : decode cX12_vote 35 = .ok (.aload_n 0, 1) := by decide +kernel
theorem dX12_vote_36 : decode cX12_vote 36 = .ok (.iload_n 1, 1) := by decide +kernel
theorem dX12_vote_37 : decode cX12_vote 37 = .ok (.invokevirtual 340, 3) := by decide +kernel
theorem dX12_vote_40 : decode cX12_vote 40 = .ok (.ireturn, 1) := by decide +kernel
theorem dX12_keepsAll_0 : decode cX12_keepsAll 0 = .ok (.aload_n 0, 1) := by decide +kernel
theorem dX12_keepsAll_1 : decode cX12_keepsAll 1 = .ok (.iconst 4, 1) := by decide +kernel
theorem dX12_keepsAll_2 : decode cX12_keepsAll 2 = .ok (.iconst 0, 1) := by decide +kernel
theorem dX12_keepsAll_3 : decode cX12_keepsAll 3 = .ok (.invokevirtual 481, 3) := by decide +kernel
theorem dX12_keepsAll_6 : decode cX12_keepsAll 6 = .ok (.iconst 0, 1) := by decide +kernel
theorem dX12_keepsAll_7 : decode cX12_keepsAll 7 = .ok (.istore_n 1, 1) := by decide +kernel
theorem dX12_keepsAll_8 : decode cX12_keepsAll 8 = .ok (.iload_n 1, 1) := by decide +kernel
theorem dX12_keepsAll_9 : decode cX12_keepsAll 9 = .ok (.iconst 4, 1) := by decide +kernel
theorem dX12_keepsAll_10 : decode cX12_keepsAll 10 = .ok (.if_icmp .ge 16, 3) := by decide +kernel
theorem dX12_keepsAll_13 : decode cX12_keepsAll 13 = .ok (.aload_n 0, 1) := by decide +kernel
theorem dX12_keepsAll_14 : decode cX12_keepsAll 14 = .ok (.getfield 127, 3) := by decide +kernel
theorem dX12_keepsAll_17 : decode cX12_keepsAll 17 = .ok (.iload_n 1, 1) := by decide +kernel
theorem dX12_keepsAll_18 : decode cX12_keepsAll 18 = .ok (.iconst 0, 1) := by decide +kernel
theorem dX12_keepsAll_19 : decode cX12_keepsAll 19 = .ok (.iastore, 1) := by decide +kernel
theorem dX12_keepsAll_20 : decode cX12_keepsAll 20 = .ok (.iinc 1 1, 3) := by decide +kernel
theorem dX12_keepsAll_23 : decode cX12_keepsAll 23 = .ok (.goto (-15), 3) := by decide +kernel
theorem dX12_keepsAll_26 : decode cX12_keepsAll 26 = .ok (.return_, 1) := by decide +kernel
theorem dX12_laysBack_0 : decode cX12_laysBack 0 = .ok (.aload_n 0, 1) := by decide +kernel
theorem dX12_laysBack_1 : decode cX12_laysBack 1 = .ok (.iconst 4, 1) := by decide +kernel
theorem dX12_laysBack_2 : decode cX12_laysBack 2 = .ok (.iconst 1, 1) := by decide +kernel
theorem dX12_laysBack_3 : decode cX12_laysBack 3 = .ok (.invokevirtual 481, 3) := by decide +kernel
theorem dX12_laysBack_6 : decode cX12_laysBack 6 = .ok (.return_, 1) := by decide +kernel
theorem dX12_isNumber_0 : decode cX12_isNumber 0 = .ok (.iload_n 2, 1) := by decide +kernel
theorem dX12_isNumber_1 : decode cX12_isNumber 1 = .ok (.ifCond .ne 11, 3) := by decide +kernel
theorem dX12_isNumber_4 : decode cX12_isNumber 4 = .ok (.aload_n 0, 1) := by decide +kernel
theorem dX12_isNumber_5 : decode cX12_isNumber 5 = .ok (.iload_n 1, 1) := by decide +kernel
theorem dX12_isNumber_6 : decode cX12_isNumber 6 = .ok (.invokevirtual 417, 3) := by decide +kernel
theorem dX12_isNumber_9 : decode cX12_isNumber 9 = .ok (.goto 21, 3) := by decide +kernel
theorem dX12_isNumber_12 : decode cX12_isNumber 12 = .ok (.iload_n 2, 1) := by decide +kernel
theorem dX12_isNumber_13 : decode cX12_isNumber 13 = .ok (.iconst 1, 1) := by decide +kernel
theorem dX12_isNumber_14 : decode cX12_isNumber 14 = .ok (.if_icmp .ne 11, 3) := by decide +kernel
theorem dX12_isNumber_17 : decode cX12_isNumber 17 = .ok (.aload_n 0, 1) := by decide +kernel
theorem dX12_isNumber_18 : decode cX12_isNumber 18 = .ok (.iload_n 1, 1) := by decide +kernel
theorem dX12_isNumber_19 : decode cX12_isNumber 19 = .ok (.invokevirtual 423, 3) := by decide +kernel
theorem dX12_isNumber_22 : decode cX12_isNumber 22 = .ok (.goto 8, 3) := by decide +kernel
theorem dX12_isNumber_25 : decode cX12_isNumber 25 = .ok (.aload_n 0, 1) := by decide +kernel
theorem dX12_isNumber_26 : decode cX12_isNumber 26 = .ok (.iload_n 1, 1) := by decide +kernel
theorem dX12_isNumber_27 : decode cX12_isNumber 27 = .ok (.invokevirtual 405, 3) := by decide +kernel
theorem dX12_isNumber_30 : decode cX12_isNumber 30 = .ok (.ireturn, 1) := by decide +kernel
theorem dX12_ahead_0 : decode cX12_ahead 0 = .ok (.iload_n 3, 1) := by decide +kernel
theorem dX12_ahead_1 : decode cX12_ahead 1 = .ok (.i2l, 1) := by decide +kernel
theorem dX12_ahead_2 : decode cX12_ahead 2 = .ok (.lconst 0, 1) := by decide +kernel
theorem dX12_ahead_3 : decode cX12_ahead 3 = .ok (.ldc2_w 484, 3) := by decide +kernel
theorem dX12_ahead_6 : decode cX12_ahead 6 = .ok (.invokestatic 164, 3) := by decide +kernel
theorem dX12_ahead_9 : decode cX12_ahead 9 = .ok (.ifCond .eq 24, 3) := by decide +kernel
theorem dX12_ahead_12 : decode cX12_ahead 12 = .ok (.aload_n 0, 1) := by decide +kernel
theorem dX12_ahead_13 : decode cX12_ahead 13 = .ok (.iload_n 1, 1) := by decide +kernel
theorem dX12_ahead_14 : decode cX12_ahead 14 = .ok (.iload_n 3, 1) := by decide +kernel
theorem dX12_ahead_15 : decode cX12_ahead 15 = .ok (.invokevirtual 486, 3) := by decide +kernel
theorem dX12_ahead_18 : decode cX12_ahead 18 = .ok (.ifCond .eq 15, 3) := by decide +kernel
theorem dX12_ahead_21 : decode cX12_ahead 21 = .ok (.iload_n 2, 1) := by decide +kernel
theorem dX12_ahead_22 : decode cX12_ahead 22 = .ok (.i2l, 1) := by decide +kernel
theorem dX12_ahead_23 : decode cX12_ahead 23 = .ok (.lconst 0, 1) := by decide +kernel
theorem dX12_ahead_24 : decode cX12_ahead 24 = .ok (.ldc2_w 489, 3) := by decide +kernel
theorem dX12_ahead_27 : decode cX12_ahead 27 = .ok (.invokestatic 164, 3) := by decide +kernel
theorem dX12_ahead_30 : decode cX12_ahead 30 = .ok (.ifCond .ne 6, 3) := by decide +kernel
theorem dX12_ahead_33 : decode cX12_ahead 33 = .ok (.bipush (-2), 2) := by decide +kernel
theorem dX12_ahead_35 : decode cX12_ahead 35 = .ok (.ireturn, 1) := by decide +kernel
theorem dX12_ahead_36 : decode cX12_ahead 36 = .ok (.aload_n 0, 1) := by decide +kernel
theorem dX12_ahead_37 : decode cX12_ahead 37 = .ok (.invokevirtual 491, 3) := by decide +kernel
theorem dX12_ahead_40 : decode cX12_ahead 40 = .ok (.aload_n 0, 1) := by decide +kernel
theorem dX12_ahead_41 : decode cX12_ahead 41 = .ok (.iload_n 2, 1) := by decide +kernel
theorem dX12_ahead_42 : decode cX12_ahead 42 = .ok (.invokevirtual 494, 3) := by decide +kernel
theorem dX12_ahead_45 : decode cX12_ahead 45 = .ok (.iload_n 3, 1) := by decide +kernel
theorem dX12_ahead_46 : decode cX12_ahead 46 = .ok (.ifCond .ne 11, 3) := by decide +kernel
theorem dX12_ahead_49 : decode cX12_ahead 49 = .ok (.aload_n 0, 1) := by decide +kernel
theorem dX12_ahead_50 : decode cX12_ahead 50 = .ok (.iload_n 1, 1) := by decide +kernel
theorem dX12_ahead_51 : decode cX12_ahead 51 = .ok (.invokevirtual 420, 3) := by decide +kernel
theorem dX12_ahead_54 : decode cX12_ahead 54 = .ok (.goto 22, 3) := by decide +kernel
theorem dX12_ahead_57 : decode cX12_ahead 57 = .ok (.iload_n 3, 1) := by decide +kernel
theorem dX12_ahead_58 : decode cX12_ahead 58 = .ok (.iconst 1, 1) := by decide +kernel
theorem dX12_ahead_59 : decode cX12_ahead 59 = .ok (.if_icmp .ne 12, 3) := by decide +kernel
theorem dX12_ahead_62 : decode cX12_ahead 62 = .ok (.aload_n 0, 1) := by decide +kernel
theorem dX12_ahead_63 : decode cX12_ahead 63 = .ok (.getfield 22, 3) := by decide +kernel
theorem dX12_ahead_66 : decode cX12_ahead 66 = .ok (.iload_n 1, 1) := by decide +kernel
theorem dX12_ahead_67 : decode cX12_ahead 67 = .ok (.iaload, 1) := by decide +kernel
theorem dX12_ahead_68 : decode cX12_ahead 68 = .ok (.goto 8, 3) := by decide +kernel
theorem dX12_ahead_71 : decode cX12_ahead 71 = .ok (.aload_n 0, 1) := by decide +kernel
theorem dX12_ahead_72 : decode cX12_ahead 72 = .ok (.iload_n 1, 1) := by decide +kernel
theorem dX12_ahead_73 : decode cX12_ahead 73 = .ok (.invokevirtual 402, 3) := by decide +kernel
theorem dX12_ahead_76 : decode cX12_ahead 76 = .ok (.istore 4, 2) := by decide +kernel
theorem dX12_ahead_78 : decode cX12_ahead 78 = .ok (.aload_n 0, 1) := by decide +kernel
theorem dX12_ahead_79 : decode cX12_ahead 79 = .ok (.invokevirtual 497, 3) := by decide +kernel
theorem dX12_ahead_82 : decode cX12_ahead 82 = .ok (.iload 4, 2) := by decide +kernel
theorem dX12_ahead_84 : decode cX12_ahead 84 = .ok (.ireturn, 1) := by decide +kernel
theorem dX12_rents_0 : decode cX12_rents 0 = .ok (.aload_n 0, 1) := by decide +kernel
theorem dX12_rents_1 : decode cX12_rents 1 = .ok (.iload_n 1, 1) := by decide +kernel
theorem dX12_rents_2 : decode cX12_rents 2 = .ok (.invokevirtual 423, 3) := by decide +kernel
theorem dX12_rents_5 : decode cX12_rents 5 = .ok (.ifCond .eq 15, 3) := by decide +kernel
theorem dX12_rents_8 : decode cX12_rents 8 = .ok (.iload_n 2, 1) := by decide +kernel
theorem dX12_rents_9 : decode cX12_rents 9 = .ok (.i2l, 1) := by decide +kernel
theorem dX12_rents_10 : decode cX12_rents 10 = .ok (.lconst 1, 1) := by decide +kernel
theorem dX12_rents_11 : decode cX12_rents 11 = .ok (.ldc2_w 489, 3) := by decide +kernel
theorem dX12_rents_14 : decode cX12_rents 14 = .ok (.invokestatic 164, 3) := by decide +kernel
theorem dX12_rents_17 : decode cX12_rents 17 = .ok (.ifCond .ne 5, 3) := by decide +kernel
theorem dX12_rents_20 : decode cX12_rents 20 = .ok (.iconst (-1), 1) := by decide +kernel
theorem dX12_rents_21 : decode cX12_rents 21 = .ok (.ireturn, 1) := by decide +kernel
theorem dX12_rents_22 : decode cX12_rents 22 = .ok (.aload_n 0, 1) := by decide +kernel
theorem dX12_rents_23 : decode cX12_rents 23 = .ok (.invokevirtual 491, 3) := by decide +kernel
theorem dX12_rents_26 : decode cX12_rents 26 = .ok (.aload_n 0, 1) := by decide +kernel
theorem dX12_rents_27 : decode cX12_rents 27 = .ok (.iload_n 2, 1) := by decide +kernel
theorem dX12_rents_28 : decode cX12_rents 28 = .ok (.invokevirtual 494, 3) := by decide +kernel
theorem dX12_rents_31 : decode cX12_rents 31 = .ok (.aload_n 0, 1) := by decide +kernel
theorem dX12_rents_32 : decode cX12_rents 32 = .ok (.invokevirtual 497, 3) := by decide +kernel
theorem dX12_rents_35 : decode cX12_rents 35 = .ok (.aload_n 0, 1) := by decide +kernel
theorem dX12_rents_36 : decode cX12_rents 36 = .ok (.getfield 127, 3) := by decide +kernel
theorem dX12_rents_39 : decode cX12_rents 39 = .ok (.iload_n 1, 1) := by decide +kernel
theorem dX12_rents_40 : decode cX12_rents 40 = .ok (.iaload, 1) := by decide +kernel
theorem dX12_rents_41 : decode cX12_rents 41 = .ok (.ireturn, 1) := by decide +kernel
theorem dX12_worth_0 : decode cX12_worth 0 = .ok (.aload_n 0, 1) := by decide +kernel
theorem dX12_worth_1 : decode cX12_worth 1 = .ok (.iload_n 1, 1) := by decide +kernel
theorem dX12_worth_2 : decode cX12_worth 2 = .ok (.invokevirtual 405, 3) := by decide +kernel
theorem dX12_worth_5 : decode cX12_worth 5 = .ok (.ifCond .eq 35, 3) := by decide +kernel
theorem dX12_worth_8 : decode cX12_worth 8 = .ok (.aload_n 0, 1) := by decide +kernel
theorem dX12_worth_9 : decode cX12_worth 9 = .ok (.aload_n 0, 1) := by decide +kernel
theorem dX12_worth_10 : decode cX12_worth 10 = .ok (.iload_n 1, 1) := by decide +kernel
theorem dX12_worth_11 : decode cX12_worth 11 = .ok (.invokevirtual 408, 3) := by decide +kernel
theorem dX12_worth_14 : decode cX12_worth 14 = .ok (.invokevirtual 336, 3) := by decide +kernel
theorem dX12_worth_17 : decode cX12_worth 17 = .ok (.ifCond .ne 23, 3) := by decide +kernel
theorem dX12_worth_20 : decode cX12_worth 20 = .ok (.aload_n 0, 1) := by decide +kernel
theorem dX12_worth_21 : decode cX12_worth 21 = .ok (.iload_n 2, 1) := by decide +kernel
theorem dX12_worth_22 : decode cX12_worth 22 = .ok (.invokevirtual 423, 3) := by decide +kernel
theorem dX12_worth_25 : decode cX12_worth 25 = .ok (.ifCond .eq 15, 3) := by decide +kernel
theorem dX12_worth_28 : decode cX12_worth 28 = .ok (.iload_n 3, 1) := by decide +kernel
theorem dX12_worth_29 : decode cX12_worth 29 = .ok (.i2l, 1) := by decide +kernel
theorem dX12_worth_30 : decode cX12_worth 30 = .ok (.lconst 1, 1) := by decide +kernel
theorem dX12_worth_31 : decode cX12_worth 31 = .ok (.ldc2_w 489, 3) := by decide +kernel
theorem dX12_worth_34 : decode cX12_worth 34 = .ok (.invokestatic 164, 3) := by decide +kernel
theorem dX12_worth_37 : decode cX12_worth 37 = .ok (.ifCond .ne 7, 3) := by decide +kernel
theorem dX12_worth_40 : decode cX12_worth 40 = .ok (.ldc_w 500, 3) := by decide +kernel
theorem dX12_worth_43 : decode cX12_worth 43 = .ok (.ireturn, 1) := by decide +kernel
theorem dX12_worth_44 : decode cX12_worth 44 = .ok (.aload_n 0, 1) := by decide +kernel
theorem dX12_worth_45 : decode cX12_worth 45 = .ok (.invokevirtual 491, 3) := by decide +kernel
theorem dX12_worth_48 : decode cX12_worth 48 = .ok (.aload_n 0, 1) := by decide +kernel
theorem dX12_worth_49 : decode cX12_worth 49 = .ok (.iload_n 1, 1) := by decide +kernel
theorem dX12_worth_50 : decode cX12_worth 50 = .ok (.iload_n 2, 1) := by decide +kernel
theorem dX12_worth_51 : decode cX12_worth 51 = .ok (.invokevirtual 448, 3) := by decide +kernel
theorem dX12_worth_54 : decode cX12_worth 54 = .ok (.aload_n 0, 1) := by decide +kernel
theorem dX12_worth_55 : decode cX12_worth 55 = .ok (.iload_n 3, 1) := by decide +kernel
theorem dX12_worth_56 : decode cX12_worth 56 = .ok (.invokevirtual 494, 3) := by decide +kernel
theorem dX12_worth_59 : decode cX12_worth 59 = .ok (.aload_n 0, 1) := by decide +kernel
theorem dX12_worth_60 : decode cX12_worth 60 = .ok (.invokevirtual 497, 3) := by decide +kernel
theorem dX12_worth_63 : decode cX12_worth 63 = .ok (.aload_n 0, 1) := by decide +kernel
theorem dX12_worth_64 : decode cX12_worth 64 = .ok (.getfield 127, 3) := by decide +kernel
theorem dX12_worth_67 : decode cX12_worth 67 = .ok (.iload_n 2, 1) := by decide +kernel
theorem dX12_worth_68 : decode cX12_worth 68 = .ok (.iaload, 1) := by decide +kernel
theorem dX12_worth_69 : decode cX12_worth 69 = .ok (.istore 4, 2) := by decide +kernel
theorem dX12_worth_71 : decode cX12_worth 71 = .ok (.aload_n 0, 1) := by decide +kernel
theorem dX12_worth_72 : decode cX12_worth 72 = .ok (.invokevirtual 491, 3) := by decide +kernel
theorem dX12_worth_75 : decode cX12_worth 75 = .ok (.aload_n 0, 1) := by decide +kernel
theorem dX12_worth_76 : decode cX12_worth 76 = .ok (.iload_n 3, 1) := by decide +kernel
theorem dX12_worth_77 : decode cX12_worth 77 = .ok (.invokevirtual 494, 3) := by decide +kernel
theorem dX12_worth_80 : decode cX12_worth 80 = .ok (.aload_n 0, 1) := by decide +kernel
theorem dX12_worth_81 : decode cX12_worth 81 = .ok (.invokevirtual 497, 3) := by decide +kernel
theorem dX12_worth_84 : decode cX12_worth 84 = .ok (.iload 4, 2) := by decide +kernel
theorem dX12_worth_86 : decode cX12_worth 86 = .ok (.aload_n 0, 1) := by decide +kernel
theorem dX12_worth_87 : decode cX12_worth 87 = .ok (.getfield 127, 3) := by decide +kernel
theorem dX12_worth_90 : decode cX12_worth 90 = .ok (.iload_n 2, 1) := by decide +kernel
theorem dX12_worth_91 : decode cX12_worth 91 = .ok (.iaload, 1) := by decide +kernel
theorem dX12_worth_92 : decode cX12_worth 92 = .ok (.isub, 1) := by decide +kernel
theorem dX12_worth_93 : decode cX12_worth 93 = .ok (.ireturn, 1) := by decide +kernel
theorem dX12_idles_0 : decode cX12_idles 0 = .ok (.iconst 0, 1) := by decide +kernel
theorem dX12_idles_1 : decode cX12_idles 1 = .ok (.istore_n 2, 1) := by decide +kernel
theorem dX12_idles_2 : decode cX12_idles 2 = .ok (.iload_n 2, 1) := by decide +kernel
theorem dX12_idles_3 : decode cX12_idles 3 = .ok (.iload_n 1, 1) := by decide +kernel
theorem dX12_idles_4 : decode cX12_idles 4 = .ok (.if_icmp .ge 13, 3) := by decide +kernel
theorem dX12_idles_7 : decode cX12_idles 7 = .ok (.aload_n 0, 1) := by decide +kernel
theorem dX12_idles_8 : decode cX12_idles 8 = .ok (.invokevirtual 457, 3) := by decide +kernel
theorem dX12_idles_11 : decode cX12_idles 11 = .ok (.iinc 2 1, 3) := by decide +kernel
theorem dX12_idles_14 : decode cX12_idles 14 = .ok (.goto (-12), 3) := by decide +kernel
theorem dX12_idles_17 : decode cX12_idles 17 = .ok (.return_, 1) := by decide +kernel
theorem dX12_isTheirsBehind_0 : decode cX12_isTheirsBehind 0 = .ok (.iconst 0, 1) := by decide +kernel
theorem dX12_isTheirsBehind_1 : decode cX12_isTheirsBehind 1 = .ok (.istore 5, 2) := by decide +kernel
theorem dX12_isTheirsBehind_3 : decode cX12_isTheirsBehind 3 = .ok (.iload 5, 2) := by decide +kernel
theorem dX12_isTheirsBehind_5 : decode cX12_isTheirsBehind 5 = .ok (.aload_n 0, 1) := by decide +kernel
theorem dX12_isTheirsBehind_6 : decode cX12_isTheirsBehind 6 = .ok (.iload_n 2, 1) := by decide +kernel
theorem dX12_isTheirsBehind_7 : decode cX12_isTheirsBehind 7 = .ok (.invokevirtual 396, 3) := by decide +kernel
theorem dX12_isTheirsBehind_10 : decode cX12_isTheirsBehind 10 = .ok (.if_icmp .ge 32, 3) := by decide +kernel
theorem dX12_isTheirsBehind_13 : decode cX12_isTheirsBehind 13 = .ok (.iload_n 3, 1) := by decide +kernel
theorem dX12_isTheirsBehind_14 : decode cX12_isTheirsBehind 14 = .ok (.iload 5, 2) := by decide +kernel
theorem dX12_isTheirsBehind_16 : decode cX12_isTheirsBehind 16 = .ok (.invokestatic 382, 3) := by decide +kernel
theorem dX12_isTheirsBehind_19 : decode cX12_isTheirsBehind 19 = .ok (.ifCond .eq 17, 3) := by decide +kernel
theorem dX12_isTheirsBehind_22 : decode cX12_isTheirsBehind 22 = .ok (.aload_n 0, 1) := by decide +kernel
theorem dX12_isTheirsBehind_23 : decode cX12_isTheirsBehind 23 = .ok (.aload_n 0, 1) := by decide +kernel
theorem dX12_isTheirsBehind_24 : decode cX12_isTheirsBehind 24 = .ok (.getfield 13, 3) := by decide +kernel
theorem dX12_isTheirsBehind_27 : decode cX12_isTheirsBehind 27 = .ok (.iload_n 2, 1) := by decide +kernel
theorem dX12_isTheirsBehind_28 : decode cX12_isTheirsBehind 28 = .ok (.iaload, 1) := by decide +kernel
theorem dX12_isTheirsBehind_29 : decode cX12_isTheirsBehind 29 = .ok (.iload 5, 2) := by decide +kernel
theorem dX12_isTheirsBehind_31 : decode cX12_isTheirsBehind 31 = .ok (.iadd, 1) := by decide +kernel
theorem dX12_isTheirsBehind_32 : decode cX12_isTheirsBehind 32 = .ok (.iload_n 1, 1) := by decide +kernel
theorem dX12_isTheirsBehind_33 : decode cX12_isTheirsBehind 33 = .ok (.invokevirtual 448, 3) := by decide +kernel
theorem dX12_isTheirsBehind_36 : decode cX12_isTheirsBehind 36 = .ok (.iinc 5 1, 3) := by decide +kernel
theorem dX12_isTheirsBehind_39 : decode cX12_isTheirsBehind 39 = .ok (.goto (-36), 3) := by decide +kernel
theorem dX12_isTheirsBehind_42 : decode cX12_isTheirsBehind 42 = .ok (.aload_n 0, 1) := by decide +kernel
theorem dX12_isTheirsBehind_43 : decode cX12_isTheirsBehind 43 = .ok (.iload 4, 2) := by decide +kernel
theorem dX12_isTheirsBehind_45 : decode cX12_isTheirsBehind 45 = .ok (.invokevirtual 501, 3) := by decide +kernel
theorem dX12_isTheirsBehind_48 : decode cX12_isTheirsBehind 48 = .ok (.aload_n 0, 1) := by decide +kernel
theorem dX12_isTheirsBehind_49 : decode cX12_isTheirsBehind 49 = .ok (.iload_n 2, 1) := by decide +kernel
theorem dX12_isTheirsBehind_50 : decode cX12_isTheirsBehind 50 = .ok (.invokevirtual 420, 3) := by decide +kernel
theorem dX12_isTheirsBehind_53 : decode cX12_isTheirsBehind 53 = .ok (.iload_n 1, 1) := by decide +kernel
theorem dX12_isTheirsBehind_54 : decode cX12_isTheirsBehind 54 = .ok (.if_icmp .ne 7, 3) := by decide +kernel
theorem dX12_isTheirsBehind_57 : decode cX12_isTheirsBehind 57 = .ok (.iconst 1, 1) := by decide +kernel
theorem dX12_isTheirsBehind_58 : decode cX12_isTheirsBehind 58 = .ok (.goto 4, 3) := by decide +kernel
theorem dX12_isTheirsBehind_61 : decode cX12_isTheirsBehind 61 = .ok (.iconst 0, 1) := by decide +kernel
theorem dX12_isTheirsBehind_62 : decode cX12_isTheirsBehind 62 = .ok (.istore 5, 2) := by decide +kernel
theorem dX12_isTheirsBehind_64 : decode cX12_isTheirsBehind 64 = .ok (.aload_n 0, 1) := by decide +kernel
theorem dX12_isTheirsBehind_65 : decode cX12_isTheirsBehind 65 = .ok (.invokevirtual 497, 3) := by decide +kernel
theorem dX12_isTheirsBehind_68 : decode cX12_isTheirsBehind 68 = .ok (.iload 5, 2) := by decide +kernel
theorem dX12_isTheirsBehind_70 : decode cX12_isTheirsBehind 70 = .ok (.ireturn, 1) := by decide +kernel
theorem dX12_least_0 : decode cX12_least 0 = .ok (.aload_n 0, 1) := by decide +kernel
theorem dX12_least_1 : decode cX12_least 1 = .ok (.iload_n 1, 1) := by decide +kernel
theorem dX12_least_2 : decode cX12_least 2 = .ok (.invokevirtual 423, 3) := by decide +kernel
theorem dX12_least_5 : decode cX12_least 5 = .ok (.ifCond .eq 42, 3) := by decide +kernel
theorem dX12_least_8 : decode cX12_least 8 = .ok (.aload_n 0, 1) := by decide +kernel
theorem dX12_least_9 : decode cX12_least 9 = .ok (.iload_n 2, 1) := by decide +kernel
theorem dX12_least_10 : decode cX12_least 10 = .ok (.invokevirtual 417, 3) := by decide +kernel
theorem dX12_least_13 : decode cX12_least 13 = .ok (.ifCond .eq 34, 3) := by decide +kernel
theorem dX12_least_16 : decode cX12_least 16 = .ok (.aload_n 0, 1) := by decide +kernel
theorem dX12_least_17 : decode cX12_least 17 = .ok (.iload_n 2, 1) := by decide +kernel
theorem dX12_least_18 : decode cX12_least 18 = .ok (.invokevirtual 336, 3) := by decide +kernel
theorem dX12_least_21 : decode cX12_least 21 = .ok (.ifCond .ne 26, 3) := by decide +kernel
theorem dX12_least_24 : decode cX12_least 24 = .ok (.iload_n 3, 1) := by decide +kernel
theorem dX12_least_25 : decode cX12_least 25 = .ok (.i2l, 1) := by decide +kernel
theorem dX12_least_26 : decode cX12_least 26 = .ok (.lconst 0, 1) := by decide +kernel
theorem dX12_least_27 : decode cX12_least 27 = .ok (.ldc2_w 504, 3) := by decide +kernel
theorem dX12_least_30 : decode cX12_least 30 = .ok (.invokestatic 164, 3) := by decide +kernel
theorem dX12_least_33 : decode cX12_least 33 = .ok (.ifCond .eq 14, 3) := by decide +kernel
theorem dX12_least_36 : decode cX12_least 36 = .ok (.iload 4, 2) := by decide +kernel
theorem dX12_least_38 : decode cX12_least 38 = .ok (.i2l, 1) := by decide +kernel
theorem dX12_least_39 : decode cX12_least 39 = .ok (.lconst 0, 1) := by decide +kernel
theorem dX12_least_40 : decode cX12_least 40 = .ok (.lconst 1, 1) := by decide +kernel
theorem dX12_least_41 : decode cX12_least 41 = .ok (.invokestatic 164, 3) := by decide +kernel
theorem dX12_least_44 : decode cX12_least 44 = .ok (.ifCond .ne 5, 3) := by decide +kernel
theorem dX12_least_47 : decode cX12_least 47 = .ok (.iconst (-1), 1) := by decide +kernel
theorem dX12_least_48 : decode cX12_least 48 = .ok (.ireturn, 1) := by decide +kernel
theorem dX12_least_49 : decode cX12_least 49 = .ok (.bipush (-2), 2) := by decide +kernel
theorem dX12_least_51 : decode cX12_least 51 = .ok (.istore 5, 2) := by decide +kernel
theorem dX12_least_53 : decode cX12_least 53 = .ok (.aload_n 0, 1) := by decide +kernel
theorem dX12_least_54 : decode cX12_least 54 = .ok (.invokevirtual 491, 3) := by decide +kernel
theorem dX12_least_57 : decode cX12_least 57 = .ok (.iconst 0, 1) := by decide +kernel
theorem dX12_least_58 : decode cX12_least 58 = .ok (.istore 6, 2) := by decide +kernel
theorem dX12_least_60 : decode cX12_least 60 = .ok (.iload 6, 2) := by decide +kernel
theorem dX12_least_62 : decode cX12_least 62 = .ok (.iconst 1, 1) := by decide +kernel
theorem dX12_least_63 : decode cX12_least 63 = .ok (.aload_n 0, 1) := by decide +kernel
theorem dX12_least_64 : decode cX12_least 64 = .ok (.iload_n 2, 1) := by decide +kernel
theorem dX12_least_65 : decode cX12_least 65 = .ok (.invokevirtual 396, 3) := by decide +kernel
theorem dX12_least_68 : decode cX12_least 68 = .ok (.ishl, 1) := by decide +kernel
theorem dX12_least_69 : decode cX12_least 69 = .ok (.if_icmp .ge 45, 3) := by decide +kernel
theorem dX12_least_72 : decode cX12_least 72 = .ok (.iload 5, 2) := by decide +kernel
theorem dX12_least_74 : decode cX12_least 74 = .ok (.bipush (-2), 2) := by decide +kernel
theorem dX12_least_76 : decode cX12_least 76 = .ok (.if_icmp .eq 16, 3) := by decide +kernel
theorem dX12_least_79 : decode cX12_least 79 = .ok (.iload 6, 2) := by decide +kernel
theorem dX12_least_81 : decode cX12_least 81 = .ok (.invokestatic 506, 3) := by decide +kernel
theorem dX12_least_84 : decode cX12_least 84 = .ok (.iload 5, 2) := by decide +kernel
theorem dX12_least_86 : decode cX12_least 86 = .ok (.invokestatic 506, 3) := by decide +kernel
theorem dX12_least_89 : decode cX12_least 89 = .ok (.if_icmp .ge 19, 3) := by decide +kernel
theorem dX12_least_92 : decode cX12_least 92 = .ok (.aload_n 0, 1) := by decide +kernel
theorem dX12_least_93 : decode cX12_least 93 = .ok (.iload_n 1, 1) := by decide +kernel
theorem dX12_least_94 : decode cX12_least 94 = .ok (.iload_n 2, 1) := by decide +kernel
theorem dX12_least_95 : decode cX12_least 95 = .ok (.iload 6, 2) := by decide +kernel
theorem dX12_least_97 : decode cX12_least 97 = .ok (.iload_n 3, 1) := by decide +kernel
theorem dX12_least_98 : decode cX12_least 98 = .ok (.invokevirtual 509, 3) := by decide +kernel
theorem dX12_least_101 : decode cX12_least 101 = .ok (.ifCond .eq 7, 3) := by decide +kernel
theorem dX12_least_104 : decode cX12_least 104 = .ok (.iload 6, 2) := by decide +kernel
theorem dX12_least_106 : decode cX12_least 106 = .ok (.istore 5, 2) := by decide +kernel
theorem dX12_least_108 : decode cX12_least 108 = .ok (.iinc 6 1, 3) := by decide +kernel
theorem dX12_least_111 : decode cX12_least 111 = .ok (.goto (-51), 3) := by decide +kernel
theorem dX12_least_114 : decode cX12_least 114 = .ok (.iload 5, 2) := by decide +kernel
theorem dX12_least_116 : decode cX12_least 116 = .ok (.bipush (-2), 2) := by decide +kernel
theorem dX12_least_118 : decode cX12_least 118 = .ok (.if_icmp .eq 9, 3) := by decide +kernel
theorem dX12_least_121 : decode cX12_least 121 = .ok (.iload 4, 2) := by decide +kernel
theorem dX12_least_123 : decode cX12_least 123 = .ok (.iconst 1, 1) := by decide +kernel
theorem dX12_least_124 : decode cX12_least 124 = .ok (.if_icmp .ne 8, 3) := by decide +kernel
theorem dX12_least_127 : decode cX12_least 127 = .ok (.iload 5, 2) := by decide +kernel
theorem dX12_least_129 : decode cX12_least 129 = .ok (.goto 8, 3) := by decide +kernel
theorem dX12_least_132 : decode cX12_least 132 = .ok (.iload 5, 2) := by decide +kernel
theorem dX12_least_134 : decode cX12_least 134 = .ok (.invokestatic 506, 3) := by decide +kernel
theorem dX12_least_137 : decode cX12_least 137 = .ok (.ireturn, 1) := by decide +kernel
theorem dX12_isNextRow_0 : decode cX12_isNextRow 0 = .ok (.aload_n 0, 1) := by decide +kernel
theorem dX12_isNextRow_1 : decode cX12_isNextRow 1 = .ok (.iload_n 1, 1) := by decide +kernel
theorem dX12_isNextRow_2 : decode cX12_isNextRow 2 = .ok (.invokevirtual 396, 3) := by decide +kernel
theorem dX12_isNextRow_5 : decode cX12_isNextRow 5 = .ok (.iconst 1, 1) := by decide +kernel
theorem dX12_isNextRow_6 : decode cX12_isNextRow 6 = .ok (.isub, 1) := by decide +kernel
theorem dX12_isNextRow_7 : decode cX12_isNextRow 7 = .ok (.istore_n 2, 1) := by decide +kernel
theorem dX12_isNextRow_8 : decode cX12_isNextRow 8 = .ok (.iload_n 2, 1) := by decide +kernel
theorem dX12_isNextRow_9 : decode cX12_isNextRow 9 = .ok (.ifCond .lt 50, 3) := by decide +kernel
