theorem dX10_init_32 : decode cX10_init 32 = .ok (.putfield 25, 3) := by decide +kernel
theorem dX10_init_35 : decode cX10_init 35 = .ok (.aload_n 0, 1) := by decide +kernel
theorem dX10_init_36 : decode cX10_init 36 = .ok (.bipush 10, 2) := by decide +kernel
theorem dX10_init_38 : decode cX10_init 38 = .ok (.newarray .int, 2) := by decide +kernel
theorem dX10_init_40 : decode cX10_init 40 = .ok (.putfield 29, 3) := by decide +kernel
theorem dX10_init_43 : decode cX10_init 43 = .ok (.aload_n 0, 1) := by decide +kernel
theorem dX10_init_44 : decode cX10_init 44 = .ok (.bipush 10, 2) := by decide +kernel
theorem dX10_init_46 : decode cX10_init 46 = .ok (.newarray .int, 2) := by decide +kernel
theorem dX10_init_48 : decode cX10_init 48 = .ok (.putfield 33, 3) := by decide +kernel
theorem dX10_init_51 : decode cX10_init 51 = .ok (.aload_n 0, 1) := by decide +kernel
theorem dX10_init_52 : decode cX10_init 52 = .ok (.bipush 10, 2) := by decide +kernel
theorem dX10_init_54 : decode cX10_init 54 = .ok (.newarray .int, 2) := by decide +kernel
theorem dX10_init_56 : decode cX10_init 56 = .ok (.putfield 36, 3) := by decide +kernel
theorem dX10_init_59 : decode cX10_init 59 = .ok (.aload_n 0, 1) := by decide +kernel
theorem dX10_init_60 : decode cX10_init 60 = .ok (.iconst (-1), 1) := by decide +kernel
theorem dX10_init_61 : decode cX10_init 61 = .ok (.putfield 39, 3) := by decide +kernel
theorem dX10_init_64 : decode cX10_init 64 = .ok (.iconst 0, 1) := by decide +kernel
theorem dX10_init_65 : decode cX10_init 65 = .ok (.istore_n 1, 1) := by decide +kernel
theorem dX10_init_66 : decode cX10_init 66 = .ok (.iload_n 1, 1) := by decide +kernel
theorem dX10_init_67 : decode cX10_init 67 = .ok (.bipush 20, 2) := by decide +kernel
theorem dX10_init_69 : decode cX10_init 69 = .ok (.if_icmp .ge 22, 3) := by decide +kernel
theorem dX10_init_72 : decode cX10_init 72 = .ok (.aload_n 0, 1) := by decide +kernel
theorem dX10_init_73 : decode cX10_init 73 = .ok (.getfield 25, 3) := by decide +kernel
theorem dX10_init_76 : decode cX10_init 76 = .ok (.iload_n 1, 1) := by decide +kernel
theorem dX10_init_77 : decode cX10_init 77 = .ok (.new 18, 3) := by decide +kernel
theorem dX10_init_80 : decode cX10_init 80 = .ok (.dup, 1) := by decide +kernel
theorem dX10_init_81 : decode cX10_init 81 = .ok (.invokespecial 20, 3) := by decide +kernel
theorem dX10_init_84 : decode cX10_init 84 = .ok (.aastore, 1) := by decide +kernel
theorem dX10_init_85 : decode cX10_init 85 = .ok (.iinc 1 1, 3) := by decide +kernel
theorem dX10_init_88 : decode cX10_init 88 = .ok (.goto (-22), 3) := by decide +kernel
theorem dX10_init_91 : decode cX10_init 91 = .ok (.return_, 1) := by decide +kernel
theorem dX10_begin_0 : decode cX10_begin 0 = .ok (.aload_n 0, 1) := by decide +kernel
theorem dX10_begin_1 : decode cX10_begin 1 = .ok (.aload_n 1, 1) := by decide +kernel
theorem dX10_begin_2 : decode cX10_begin 2 = .ok (.putfield 12, 3) := by decide +kernel
theorem dX10_begin_5 : decode cX10_begin 5 = .ok (.aload_n 0, 1) := by decide +kernel
theorem dX10_begin_6 : decode cX10_begin 6 = .ok (.getfield 21, 3) := by decide +kernel
theorem dX10_begin_9 : decode cX10_begin 9 = .ok (.aload_n 1, 1) := by decide +kernel
theorem dX10_begin_10 : decode cX10_begin 10 = .ok (.getfield 43, 3) := by decide +kernel
theorem dX10_begin_13 : decode cX10_begin 13 = .ok (.invokevirtual 46, 3) := by decide +kernel
theorem dX10_begin_16 : decode cX10_begin 16 = .ok (.aload_n 0, 1) := by decide +kernel
theorem dX10_begin_17 : decode cX10_begin 17 = .ok (.iconst 0, 1) := by decide +kernel
theorem dX10_begin_18 : decode cX10_begin 18 = .ok (.putfield 50, 3) := by decide +kernel
theorem dX10_begin_21 : decode cX10_begin 21 = .ok (.aload_n 0, 1) := by decide +kernel
theorem dX10_begin_22 : decode cX10_begin 22 = .ok (.iconst 0, 1) := by decide +kernel
theorem dX10_begin_23 : decode cX10_begin 23 = .ok (.putfield 53, 3) := by decide +kernel
theorem dX10_begin_26 : decode cX10_begin 26 = .ok (.return_, 1) := by decide +kernel
theorem dX10_keep_0 : decode cX10_keep 0 = .ok (.aload_n 0, 1) := by decide +kernel
theorem dX10_keep_1 : decode cX10_keep 1 = .ok (.getfield 50, 3) := by decide +kernel
theorem dX10_keep_4 : decode cX10_keep 4 = .ok (.bipush 20, 2) := by decide +kernel
theorem dX10_keep_6 : decode cX10_keep 6 = .ok (.if_icmp .lt 7, 3) := by decide +kernel
theorem dX10_keep_9 : decode cX10_keep 9 = .ok (.aload_n 0, 1) := by decide +kernel
theorem dX10_keep_10 : decode cX10_keep 10 = .ok (.invokevirtual 56, 3) := by decide +kernel
theorem dX10_keep_13 : decode cX10_keep 13 = .ok (.aload_n 0, 1) := by decide +kernel
theorem dX10_keep_14 : decode cX10_keep 14 = .ok (.getfield 25, 3) := by decide +kernel
theorem dX10_keep_17 : decode cX10_keep 17 = .ok (.aload_n 0, 1) := by decide +kernel
theorem dX10_keep_18 : decode cX10_keep 18 = .ok (.getfield 50, 3) := by decide +kernel
theorem dX10_keep_21 : decode cX10_keep 21 = .ok (.aaload, 1) := by decide +kernel
theorem dX10_keep_22 : decode cX10_keep 22 = .ok (.aload_n 0, 1) := by decide +kernel
theorem dX10_keep_23 : decode cX10_keep 23 = .ok (.getfield 21, 3) := by decide +kernel
theorem dX10_keep_26 : decode cX10_keep 26 = .ok (.invokevirtual 46, 3) := by decide +kernel
theorem dX10_keep_29 : decode cX10_keep 29 = .ok (.aload_n 0, 1) := by decide +kernel
theorem dX10_keep_30 : decode cX10_keep 30 = .ok (.dup, 1) := by decide +kernel
theorem dX10_keep_31 : decode cX10_keep 31 = .ok (.getfield 50, 3) := by decide +kernel
theorem dX10_keep_34 : decode cX10_keep 34 = .ok (.iconst 1, 1) := by decide +kernel
theorem dX10_keep_35 : decode cX10_keep 35 = .ok (.iadd, 1) := by decide +kernel
theorem dX10_keep_36 : decode cX10_keep 36 = .ok (.putfield 50, 3) := by decide +kernel
theorem dX10_keep_39 : decode cX10_keep 39 = .ok (.return_, 1) := by decide +kernel
theorem dX10_dropOldest_0 : decode cX10_dropOldest 0 = .ok (.aload_n 0, 1) := by decide +kernel
theorem dX10_dropOldest_1 : decode cX10_dropOldest 1 = .ok (.getfield 25, 3) := by decide +kernel
theorem dX10_dropOldest_4 : decode cX10_dropOldest 4 = .ok (.iconst 0, 1) := by decide +kernel
theorem dX10_dropOldest_5 : decode cX10_dropOldest 5 = .ok (.aaload, 1) := by decide +kernel
theorem dX10_dropOldest_6 : decode cX10_dropOldest 6 = .ok (.astore_n 1, 1) := by decide +kernel
theorem dX10_dropOldest_7 : decode cX10_dropOldest 7 = .ok (.iconst 1, 1) := by decide +kernel
theorem dX10_dropOldest_8 : decode cX10_dropOldest 8 = .ok (.istore_n 2, 1) := by decide +kernel
theorem dX10_dropOldest_9 : decode cX10_dropOldest 9 = .ok (.iload_n 2, 1) := by decide +kernel
theorem dX10_dropOldest_10 : decode cX10_dropOldest 10 = .ok (.bipush 20, 2) := by decide +kernel
theorem dX10_dropOldest_12 : decode cX10_dropOldest 12 = .ok (.if_icmp .ge 23, 3) := by decide +kernel
theorem dX10_dropOldest_15 : decode cX10_dropOldest 15 = .ok (.aload_n 0, 1) := by decide +kernel
theorem dX10_dropOldest_16 : decode cX10_dropOldest 16 = .ok (.getfield 25, 3) := by decide +kernel
theorem dX10_dropOldest_19 : decode cX10_dropOldest 19 = .ok (.iload_n 2, 1) := by decide +kernel
theorem dX10_dropOldest_20 : decode cX10_dropOldest 20 = .ok (.iconst 1, 1) := by decide +kernel
theorem dX10_dropOldest_21 : decode cX10_dropOldest 21 = .ok (.isub, 1) := by decide +kernel
theorem dX10_dropOldest_22 : decode cX10_dropOldest 22 = .ok (.aload_n 0, 1) := by decide +kernel
theorem dX10_dropOldest_23 : decode cX10_dropOldest 23 = .ok (.getfield 25, 3) := by decide +kernel
theorem dX10_dropOldest_26 : decode cX10_dropOldest 26 = .ok (.iload_n 2, 1) := by decide +kernel
theorem dX10_dropOldest_27 : decode cX10_dropOldest 27 = .ok (.aaload, 1) := by decide +kernel
theorem dX10_dropOldest_28 : decode cX10_dropOldest 28 = .ok (.aastore, 1) := by decide +kernel
theorem dX10_dropOldest_29 : decode cX10_dropOldest 29 = .ok (.iinc 2 1, 3) := by decide +kernel
theorem dX10_dropOldest_32 : decode cX10_dropOldest 32 = .ok (.goto (-23), 3) := by decide +kernel
theorem dX10_dropOldest_35 : decode cX10_dropOldest 35 = .ok (.aload_n 0, 1) := by decide +kernel
theorem dX10_dropOldest_36 : decode cX10_dropOldest 36 = .ok (.getfield 25, 3) := by decide +kernel
theorem dX10_dropOldest_39 : decode cX10_dropOldest 39 = .ok (.bipush 19, 2) := by decide +kernel
theorem dX10_dropOldest_41 : decode cX10_dropOldest 41 = .ok (.aload_n 1, 1) := by decide +kernel
theorem dX10_dropOldest_42 : decode cX10_dropOldest 42 = .ok (.aastore, 1) := by decide +kernel
theorem dX10_dropOldest_43 : decode cX10_dropOldest 43 = .ok (.aload_n 0, 1) := by decide +kernel
theorem dX10_dropOldest_44 : decode cX10_dropOldest 44 = .ok (.bipush 19, 2) := by decide +kernel
theorem dX10_dropOldest_46 : decode cX10_dropOldest 46 = .ok (.putfield 50, 3) := by decide +kernel
theorem dX10_dropOldest_49 : decode cX10_dropOldest 49 = .ok (.return_, 1) := by decide +kernel
theorem dX10_takeBack_0 : decode cX10_takeBack 0 = .ok (.aload_n 0, 1) := by decide +kernel
theorem dX10_takeBack_1 : decode cX10_takeBack 1 = .ok (.getfield 50, 3) := by decide +kernel
theorem dX10_takeBack_4 : decode cX10_takeBack 4 = .ok (.ifCond .ne 5, 3) := by decide +kernel
theorem dX10_takeBack_7 : decode cX10_takeBack 7 = .ok (.iconst 0, 1) := by decide +kernel
theorem dX10_takeBack_8 : decode cX10_takeBack 8 = .ok (.ireturn, 1) := by decide +kernel
theorem dX10_takeBack_9 : decode cX10_takeBack 9 = .ok (.aload_n 0, 1) := by decide +kernel
theorem dX10_takeBack_10 : decode cX10_takeBack 10 = .ok (.dup, 1) := by decide +kernel
theorem dX10_takeBack_11 : decode cX10_takeBack 11 = .ok (.getfield 50, 3) := by decide +kernel
theorem dX10_takeBack_14 : decode cX10_takeBack 14 = .ok (.iconst 1, 1) := by decide +kernel
theorem dX10_takeBack_15 : decode cX10_takeBack 15 = .ok (.isub, 1) := by decide +kernel
theorem dX10_takeBack_16 : decode cX10_takeBack 16 = .ok (.putfield 50, 3) := by decide +kernel
theorem dX10_takeBack_19 : decode cX10_takeBack 19 = .ok (.aload_n 0, 1) := by decide +kernel
theorem dX10_takeBack_20 : decode cX10_takeBack 20 = .ok (.getfield 21, 3) := by decide +kernel
theorem dX10_takeBack_23 : decode cX10_takeBack 23 = .ok (.aload_n 0, 1) := by decide +kernel
theorem dX10_takeBack_24 : decode cX10_takeBack 24 = .ok (.getfield 25, 3) := by decide +kernel
theorem dX10_takeBack_27 : decode cX10_takeBack 27 = .ok (.aload_n 0, 1) := by decide +kernel
theorem dX10_takeBack_28 : decode cX10_takeBack 28 = .ok (.getfield 50, 3) := by decide +kernel
theorem dX10_takeBack_31 : decode cX10_takeBack 31 = .ok (.aaload, 1) := by decide +kernel
theorem dX10_takeBack_32 : decode cX10_takeBack 32 = .ok (.invokevirtual 46, 3) := by decide +kernel
theorem dX10_takeBack_35 : decode cX10_takeBack 35 = .ok (.iconst 1, 1) := by decide +kernel
theorem dX10_takeBack_36 : decode cX10_takeBack 36 = .ok (.ireturn, 1) := by decide +kernel
theorem dX10_lastLogHour_0 : decode cX10_lastLogHour 0 = .ok (.iconst 0, 1) := by decide +kernel
theorem dX10_lastLogHour_1 : decode cX10_lastLogHour 1 = .ok (.istore_n 1, 1) := by decide +kernel
theorem dX10_lastLogHour_2 : decode cX10_lastLogHour 2 = .ok (.iconst 0, 1) := by decide +kernel
theorem dX10_lastLogHour_3 : decode cX10_lastLogHour 3 = .ok (.istore_n 2, 1) := by decide +kernel
theorem dX10_lastLogHour_4 : decode cX10_lastLogHour 4 = .ok (.iload_n 2, 1) := by decide +kernel
theorem dX10_lastLogHour_5 : decode cX10_lastLogHour 5 = .ok (.aload_n 0, 1) := by decide +kernel
theorem dX10_lastLogHour_6 : decode cX10_lastLogHour 6 = .ok (.getfield 53, 3) := by decide +kernel
theorem dX10_lastLogHour_9 : decode cX10_lastLogHour 9 = .ok (.if_icmp .ge 20, 3) := by decide +kernel
theorem dX10_lastLogHour_12 : decode cX10_lastLogHour 12 = .ok (.iload_n 1, 1) := by decide +kernel
theorem dX10_lastLogHour_13 : decode cX10_lastLogHour 13 = .ok (.aload_n 0, 1) := by decide +kernel
theorem dX10_lastLogHour_14 : decode cX10_lastLogHour 14 = .ok (.getfield 29, 3) := by decide +kernel
theorem dX10_lastLogHour_17 : decode cX10_lastLogHour 17 = .ok (.iload_n 2, 1) := by decide +kernel
theorem dX10_lastLogHour_18 : decode cX10_lastLogHour 18 = .ok (.iaload, 1) := by decide +kernel
theorem dX10_lastLogHour_19 : decode cX10_lastLogHour 19 = .ok (.invokestatic 59, 3) := by decide +kernel
theorem dX10_lastLogHour_22 : decode cX10_lastLogHour 22 = .ok (.istore_n 1, 1) := by decide +kernel
theorem dX10_lastLogHour_23 : decode cX10_lastLogHour 23 = .ok (.iinc 2 1, 3) := by decide +kernel
theorem dX10_lastLogHour_26 : decode cX10_lastLogHour 26 = .ok (.goto (-22), 3) := by decide +kernel
theorem dX10_lastLogHour_29 : decode cX10_lastLogHour 29 = .ok (.iload_n 1, 1) := by decide +kernel
theorem dX10_lastLogHour_30 : decode cX10_lastLogHour 30 = .ok (.ireturn, 1) := by decide +kernel
theorem dX10_copyFrom_0 : decode cX10_copyFrom 0 = .ok (.aload_n 0, 1) := by decide +kernel
theorem dX10_copyFrom_1 : decode cX10_copyFrom 1 = .ok (.aload_n 1, 1) := by decide +kernel
theorem dX10_copyFrom_2 : decode cX10_copyFrom 2 = .ok (.getfield 12, 3) := by decide +kernel
theorem dX10_copyFrom_5 : decode cX10_copyFrom 5 = .ok (.putfield 12, 3) := by decide +kernel
theorem dX10_copyFrom_8 : decode cX10_copyFrom 8 = .ok (.aload_n 0, 1) := by decide +kernel
theorem dX10_copyFrom_9 : decode cX10_copyFrom 9 = .ok (.getfield 21, 3) := by decide +kernel
theorem dX10_copyFrom_12 : decode cX10_copyFrom 12 = .ok (.aload_n 1, 1) := by decide +kernel
theorem dX10_copyFrom_13 : decode cX10_copyFrom 13 = .ok (.getfield 21, 3) := by decide +kernel
theorem dX10_copyFrom_16 : decode cX10_copyFrom 16 = .ok (.invokevirtual 46, 3) := by decide +kernel
theorem dX10_copyFrom_19 : decode cX10_copyFrom 19 = .ok (.iconst 0, 1) := by decide +kernel
theorem dX10_copyFrom_20 : decode cX10_copyFrom 20 = .ok (.istore_n 2, 1) := by decide +kernel
theorem dX10_copyFrom_21 : decode cX10_copyFrom 21 = .ok (.iload_n 2, 1) := by decide +kernel
theorem dX10_copyFrom_22 : decode cX10_copyFrom 22 = .ok (.aload_n 1, 1) := by decide +kernel
theorem dX10_copyFrom_23 : decode cX10_copyFrom 23 = .ok (.getfield 50, 3) := by decide +kernel
theorem dX10_copyFrom_26 : decode cX10_copyFrom 26 = .ok (.if_icmp .ge 24, 3) := by decide +kernel
theorem dX10_copyFrom_29 : decode cX10_copyFrom 29 = .ok (.aload_n 0, 1) := by decide +kernel
theorem dX10_copyFrom_30 : decode cX10_copyFrom 30 = .ok (.getfield 25, 3) := by decide +kernel
theorem dX10_copyFrom_33 : decode cX10_copyFrom 33 = .ok (.iload_n 2, 1) := by decide +kernel
theorem dX10_copyFrom_34 : decode cX10_copyFrom 34 = .ok (.aaload, 1) := by decide +kernel
theorem dX10_copyFrom_35 : decode cX10_copyFrom 35 = .ok (.aload_n 1, 1) := by decide +kernel
theorem dX10_copyFrom_36 : decode cX10_copyFrom 36 = .ok (.getfield 25, 3) := by decide +kernel
theorem dX10_copyFrom_39 : decode cX10_copyFrom 39 = .ok (.iload_n 2, 1) := by decide +kernel
theorem dX10_copyFrom_40 : decode cX10_copyFrom 40 = .ok (.aaload, 1) := by decide +kernel
theorem dX10_copyFrom_41 : decode cX10_copyFrom 41 = .ok (.invokevirtual 46, 3) := by decide +kernel
theorem dX10_copyFrom_44 : decode cX10_copyFrom 44 = .ok (.iinc 2 1, 3) := by decide +kernel
theorem dX10_copyFrom_47 : decode cX10_copyFrom 47 = .ok (.goto (-26), 3) := by decide +kernel
theorem dX10_copyFrom_50 : decode cX10_copyFrom 50 = .ok (.aload_n 0, 1) := by decide +kernel
theorem dX10_copyFrom_51 : decode cX10_copyFrom 51 = .ok (.aload_n 1, 1) := by decide +kernel
theorem dX10_copyFrom_52 : decode cX10_copyFrom 52 = .ok (.getfield 50, 3) := by decide +kernel
theorem dX10_copyFrom_55 : decode cX10_copyFrom 55 = .ok (.putfield 50, 3) := by decide +kernel
theorem dX10_copyFrom_58 : decode cX10_copyFrom 58 = .ok (.aload_n 1, 1) := by decide +kernel
theorem dX10_copyFrom_59 : decode cX10_copyFrom 59 = .ok (.getfield 29, 3) := by decide +kernel
theorem dX10_copyFrom_62 : decode cX10_copyFrom 62 = .ok (.iconst 0, 1) := by decide +kernel
theorem dX10_copyFrom_63 : decode cX10_copyFrom 63 = .ok (.aload_n 0, 1) := by decide +kernel
theorem dX10_copyFrom_64 : decode cX10_copyFrom 64 = .ok (.getfield 29, 3) := by decide +kernel
theorem dX10_copyFrom_67 : decode cX10_copyFrom 67 = .ok (.iconst 0, 1) := by decide +kernel
theorem dX10_copyFrom_68 : decode cX10_copyFrom 68 = .ok (.bipush 10, 2) := by decide +kernel
theorem dX10_copyFrom_70 : decode cX10_copyFrom 70 = .ok (.invokestatic 65, 3) := by decide +kernel
theorem dX10_copyFrom_73 : decode cX10_copyFrom 73 = .ok (.aload_n 1, 1) := by decide +kernel
theorem dX10_copyFrom_74 : decode cX10_copyFrom 74 = .ok (.getfield 33, 3) := by decide +kernel
theorem dX10_copyFrom_77 : decode cX10_copyFrom 77 = .ok (.iconst 0, 1) := by decide +kernel
theorem dX10_copyFrom_78 : decode cX10_copyFrom 78 = .ok (.aload_n 0, 1) := by decide +kernel
theorem dX10_copyFrom_79 : decode cX10_copyFrom 79 = .ok (.getfield 33, 3) := by decide +kernel
theorem dX10_copyFrom_82 : decode cX10_copyFrom 82 = .ok (.iconst 0, 1) := by decide +kernel
theorem dX10_copyFrom_83 : decode cX10_copyFrom 83 = .ok (.bipush 10, 2) := by decide +kernel
theorem dX10_copyFrom_85 : decode cX10_copyFrom 85 = .ok (.invokestatic 65, 3) := by decide +kernel
theorem dX10_copyFrom_88 : decode cX10_copyFrom 88 = .ok (.aload_n 1, 1) := by decide +kernel
theorem dX10_copyFrom_89 : decode cX10_copyFrom 89 = .ok (.getfield 36, 3) := by decide +kernel
theorem dX10_copyFrom_92 : decode cX10_copyFrom 92 = .ok (.iconst 0, 1) := by decide +kernel
theorem dX10_copyFrom_93 : decode cX10_copyFrom 93 = .ok (.aload_n 0, 1) := by decide +kernel
theorem dX10_copyFrom_94 : decode cX10_copyFrom 94 = .ok (.getfield 36, 3) := by decide +kernel
theorem dX10_copyFrom_97 : decode cX10_copyFrom 97 = .ok (.iconst 0, 1) := by decide +kernel
theorem dX10_copyFrom_98 : decode cX10_copyFrom 98 = .ok (.bipush 10, 2) := by decide +kernel
theorem dX10_copyFrom_100 : decode cX10_copyFrom 100 = .ok (.invokestatic 65, 3) := by decide +kernel
theorem dX10_copyFrom_103 : decode cX10_copyFrom 103 = .ok (.aload_n 0, 1) := by decide +kernel
theorem dX10_copyFrom_104 : decode cX10_copyFrom 104 = .ok (.aload_n 1, 1) := by decide +kernel
theorem dX10_copyFrom_105 : decode cX10_copyFrom 105 = .ok (.getfield 53, 3) := by decide +kernel
theorem dX10_copyFrom_108 : decode cX10_copyFrom 108 = .ok (.putfield 53, 3) := by decide +kernel
theorem dX10_copyFrom_111 : decode cX10_copyFrom 111 = .ok (.aload_n 0, 1) := by decide +kernel
theorem dX10_copyFrom_112 : decode cX10_copyFrom 112 = .ok (.aload_n 1, 1) := by decide +kernel
theorem dX10_copyFrom_113 : decode cX10_copyFrom 113 = .ok (.getfield 71, 3) := by decide +kernel
theorem dX10_copyFrom_116 : decode cX10_copyFrom 116 = .ok (.putfield 71, 3) := by decide +kernel
theorem dX10_copyFrom_119 : decode cX10_copyFrom 119 = .ok (.aload_n 0, 1) := by decide +kernel
theorem dX10_copyFrom_120 : decode cX10_copyFrom 120 = .ok (.aload_n 1, 1) := by decide +kernel
theorem dX10_copyFrom_121 : decode cX10_copyFrom 121 = .ok (.getfield 39, 3) := by decide +kernel
theorem dX10_copyFrom_124 : decode cX10_copyFrom 124 = .ok (.putfield 39, 3) := by decide +kernel
theorem dX10_copyFrom_127 : decode cX10_copyFrom 127 = .ok (.return_, 1) := by decide +kernel
theorem dX11_init_0 : decode cX11_init 0 = .ok (.aload_n 0, 1) := by decide +kernel
theorem dX11_init_1 : decode cX11_init 1 = .ok (.invokespecial 1, 3) := by decide +kernel
theorem dX11_init_4 : decode cX11_init 4 = .ok (.aload_n 0, 1) := by decide +kernel
theorem dX11_init_5 : decode cX11_init 5 = .ok (.sipush 400, 3) := by decide +kernel
theorem dX11_init_8 : decode cX11_init 8 = .ok (.newarray .byte, 2) := by decide +kernel
theorem dX11_init_10 : decode cX11_init 10 = .ok (.putfield 9, 3) := by decide +kernel
theorem dX11_init_13 : decode cX11_init 13 = .ok (.aload_n 0, 1) := by decide +kernel
theorem dX11_init_14 : decode cX11_init 14 = .ok (.new 13, 3) := by decide +kernel
theorem dX11_init_17 : decode cX11_init 17 = .ok (.dup, 1) := by decide +kernel
theorem dX11_init_18 : decode cX11_init 18 = .ok (.invokespecial 15, 3) := by decide +kernel
theorem dX11_init_21 : decode cX11_init 21 = .ok (.putfield 16, 3) := by decide +kernel
theorem dX11_init_24 : decode cX11_init 24 = .ok (.aload_n 0, 1) := by decide +kernel
theorem dX11_init_25 : decode cX11_init 25 = .ok (.new 20, 3) := by decide +kernel
theorem dX11_init_28 : decode cX11_init 28 = .ok (.dup, 1) := by decide +kernel
theorem dX11_init_29 : decode cX11_init 29 = .ok (.aload_n 0, 1) := by decide +kernel
theorem dX11_init_30 : decode cX11_init 30 = .ok (.getfield 16, 3) := by decide +kernel
theorem dX11_init_33 : decode cX11_init 33 = .ok (.invokespecial 22, 3) := by decide +kernel
theorem dX11_init_36 : decode cX11_init 36 = .ok (.putfield 25, 3) := by decide +kernel
theorem dX11_init_39 : decode cX11_init 39 = .ok (.aload_n 0, 1) := by decide +kernel
theorem dX11_init_40 : decode cX11_init 40 = .ok (.bipush 6, 2) := by decide +kernel
theorem dX11_init_42 : decode cX11_init 42 = .ok (.anewarray 29, 3) := by decide +kernel
theorem dX11_init_45 : decode cX11_init 45 = .ok (.putfield 31, 3) := by decide +kernel
theorem dX11_init_48 : decode cX11_init 48 = .ok (.aload_n 0, 1) := by decide +kernel
theorem dX11_init_49 : decode cX11_init 49 = .ok (.new 35, 3) := by decide +kernel
theorem dX11_init_52 : decode cX11_init 52 = .ok (.dup, 1) := by decide +kernel
theorem dX11_init_53 : decode cX11_init 53 = .ok (.invokespecial 37, 3) := by decide +kernel
theorem dX11_init_56 : decode cX11_init 56 = .ok (.putfield 38, 3) := by decide +kernel
theorem dX11_init_59 : decode cX11_init 59 = .ok (.aload_n 0, 1) := by decide +kernel
theorem dX11_init_60 : decode cX11_init 60 = .ok (.iconst 4, 1) := by decide +kernel
theorem dX11_init_61 : decode cX11_init 61 = .ok (.anewarray 35, 3) := by decide +kernel
theorem dX11_init_64 : decode cX11_init 64 = .ok (.putfield 42, 3) := by decide +kernel
theorem dX11_init_67 : decode cX11_init 67 = .ok (.aload_n 0, 1) := by decide +kernel
theorem dX11_init_68 : decode cX11_init 68 = .ok (.new 46, 3) := by decide +kernel
theorem dX11_init_71 : decode cX11_init 71 = .ok (.dup, 1) := by decide +kernel
theorem dX11_init_72 : decode cX11_init 72 = .ok (.invokespecial 48, 3) := by decide +kernel
theorem dX11_init_75 : decode cX11_init 75 = .ok (.putfield 49, 3) := by decide +kernel
theorem dX11_init_78 : decode cX11_init 78 = .ok (.aload_n 0, 1) := by decide +kernel
theorem dX11_init_79 : decode cX11_init 79 = .ok (.new 53, 3) := by decide +kernel
theorem dX11_init_82 : decode cX11_init 82 = .ok (.dup, 1) := by decide +kernel
theorem dX11_init_83 : decode cX11_init 83 = .ok (.invokespecial 55, 3) := by decide +kernel
theorem dX11_init_86 : decode cX11_init 86 = .ok (.putfield 56, 3) := by decide +kernel
theorem dX11_init_89 : decode cX11_init 89 = .ok (.aload_n 0, 1) := by decide +kernel
theorem dX11_init_90 : decode cX11_init 90 = .ok (.new 60, 3) := by decide +kernel
theorem dX11_init_93 : decode cX11_init 93 = .ok (.dup, 1) := by decide +kernel
theorem dX11_init_94 : decode cX11_init 94 = .ok (.invokespecial 62, 3) := by decide +kernel
theorem dX11_init_97 : decode cX11_init 97 = .ok (.putfield 63, 3) := by decide +kernel
theorem dX11_init_100 : decode cX11_init 100 = .ok (.aload_n 0, 1) := by decide +kernel
theorem dX11_init_101 : decode cX11_init 101 = .ok (.new 67, 3) := by decide +kernel
theorem dX11_init_104 : decode cX11_init 104 = .ok (.dup, 1) := by decide +kernel
theorem dX11_init_105 : decode cX11_init 105 = .ok (.invokespecial 69, 3) := by decide +kernel
theorem dX11_init_108 : decode cX11_init 108 = .ok (.putfield 70, 3) := by decide +kernel
theorem dX11_init_111 : decode cX11_init 111 = .ok (.aload_n 0, 1) := by decide +kernel
theorem dX11_init_112 : decode cX11_init 112 = .ok (.bipush 6, 2) := by decide +kernel
theorem dX11_init_114 : decode cX11_init 114 = .ok (.newarray .int, 2) := by decide +kernel
theorem dX11_init_116 : decode cX11_init 116 = .ok (.putfield 74, 3) := by decide +kernel
theorem dX11_init_119 : decode cX11_init 119 = .ok (.aload_n 0, 1) := by decide +kernel
theorem dX11_init_120 : decode cX11_init 120 = .ok (.bipush 6, 2) := by decide +kernel
theorem dX11_init_122 : decode cX11_init 122 = .ok (.newarray .int, 2) := by decide +kernel
theorem dX11_init_124 : decode cX11_init 124 = .ok (.putfield 78, 3) := by decide +kernel
theorem dX11_init_127 : decode cX11_init 127 = .ok (.aload_n 0, 1) := by decide +kernel
theorem dX11_init_128 : decode cX11_init 128 = .ok (.bipush 28, 2) := by decide +kernel
theorem dX11_init_130 : decode cX11_init 130 = .ok (.newarray .int, 2) := by decide +kernel
theorem dX11_init_132 : decode cX11_init 132 = .ok (.putfield 81, 3) := by decide +kernel
theorem dX11_init_135 : decode cX11_init 135 = .ok (.aload_n 0, 1) := by decide +kernel
theorem dX11_init_136 : decode cX11_init 136 = .ok (.iconst 0, 1) := by decide +kernel
theorem dX11_init_137 : decode cX11_init 137 = .ok (.putfield 84, 3) := by decide +kernel
theorem dX11_init_140 : decode cX11_init 140 = .ok (.aload_n 0, 1) := by decide +kernel
theorem dX11_init_141 : decode cX11_init 141 = .ok (.iconst 0, 1) := by decide +kernel
theorem dX11_init_142 : decode cX11_init 142 = .ok (.putfield 88, 3) := by decide +kernel
theorem dX11_init_145 : decode cX11_init 145 = .ok (.return_, 1) := by decide +kernel
theorem dX11_feed_0 : decode cX11_feed 0 = .ok (.aload_n 0, 1) := by decide +kernel
theorem dX11_feed_1 : decode cX11_feed 1 = .ok (.getfield 84, 3) := by decide +kernel
theorem dX11_feed_4 : decode cX11_feed 4 = .ok (.sipush 380, 3) := by decide +kernel
theorem dX11_feed_7 : decode cX11_feed 7 = .ok (.if_icmp .le 5, 3) := by decide +kernel
theorem dX11_feed_10 : decode cX11_feed 10 = .ok (.iconst (-1), 1) := by decide +kernel
theorem dX11_feed_11 : decode cX11_feed 11 = .ok (.ireturn, 1) := by decide +kernel
theorem dX11_feed_12 : decode cX11_feed 12 = .ok (.aload_n 0, 1) := by decide +kernel
theorem dX11_feed_13 : decode cX11_feed 13 = .ok (.iload_n 1, 1) := by decide +kernel
theorem dX11_feed_14 : decode cX11_feed 14 = .ok (.invokevirtual 91, 3) := by decide +kernel
theorem dX11_feed_17 : decode cX11_feed 17 = .ok (.aload_n 0, 1) := by decide +kernel
theorem dX11_feed_18 : decode cX11_feed 18 = .ok (.iload_n 2, 1) := by decide +kernel
theorem dX11_feed_19 : decode cX11_feed 19 = .ok (.invokevirtual 91, 3) := by decide +kernel
theorem dX11_feed_22 : decode cX11_feed 22 = .ok (.aload_n 0, 1) := by decide +kernel
theorem dX11_feed_23 : decode cX11_feed 23 = .ok (.iload_n 3, 1) := by decide +kernel
theorem dX11_feed_24 : decode cX11_feed 24 = .ok (.invokevirtual 91, 3) := by decide +kernel
theorem dX11_feed_27 : decode cX11_feed 27 = .ok (.aload_n 0, 1) := by decide +kernel
theorem dX11_feed_28 : decode cX11_feed 28 = .ok (.iload 4, 2) := by decide +kernel
theorem dX11_feed_30 : decode cX11_feed 30 = .ok (.invokevirtual 91, 3) := by decide +kernel
theorem dX11_feed_33 : decode cX11_feed 33 = .ok (.aload_n 0, 1) := by decide +kernel
theorem dX11_feed_34 : decode cX11_feed 34 = .ok (.iload 5, 2) := by decide +kernel
theorem dX11_feed_36 : decode cX11_feed 36 = .ok (.invokevirtual 91, 3) := by decide +kernel
theorem dX11_feed_39 : decode cX11_feed 39 = .ok (.aload_n 0, 1) := by decide +kernel
theorem dX11_feed_40 : decode cX11_feed 40 = .ok (.getfield 84, 3) := by decide +kernel
theorem dX11_feed_43 : decode cX11_feed 43 = .ok (.ireturn, 1) := by decide +kernel
theorem dX11_append_0 : decode cX11_append 0 = .ok (.bipush 24, 2) := by decide +kernel
theorem dX11_append_2 : decode cX11_append 2 = .ok (.istore_n 2, 1) := by decide +kernel
theorem dX11_append_3 : decode cX11_append 3 = .ok (.iload_n 2, 1) := by decide +kernel
theorem dX11_append_4 : decode cX11_append 4 = .ok (.ifCond .lt 42, 3) := by decide +kernel
theorem dX11_append_7 : decode cX11_append 7 = .ok (.aload_n 0, 1) := by decide +kernel
theorem dX11_append_8 : decode cX11_append 8 = .ok (.getfield 84, 3) := by decide +kernel
theorem dX11_append_11 : decode cX11_append 11 = .ok (.sipush 400, 3) := by decide +kernel
theorem dX11_append_14 : decode cX11_append 14 = .ok (.if_icmp .ge 26, 3) := by decide +kernel
theorem dX11_append_17 : decode cX11_append 17 = .ok (.aload_n 0, 1) := by decide +kernel
theorem dX11_append_18 : decode cX11_append 18 = .ok (.getfield 9, 3) := by decide +kernel
theorem dX11_append_21 : decode cX11_append 21 = .ok (.aload_n 0, 1) := by decide +kernel
theorem dX11_append_22 : decode cX11_append 22 = .ok (.getfield 84, 3) := by decide +kernel
theorem dX11_append_25 : decode cX11_append 25 = .ok (.iload_n 1, 1) := by decide +kernel
theorem dX11_append_26 : decode cX11_append 26 = .ok (.iload_n 2, 1) := by decide +kernel
theorem dX11_append_27 : decode cX11_append 27 = .ok (.iushr, 1) := by decide +kernel
theorem dX11_append_28 : decode cX11_append 28 = .ok (.i2b, 1) := by decide +kernel
theorem dX11_append_29 : decode cX11_append 29 = .ok (.bastore, 1) := by decide +kernel
theorem dX11_append_30 : decode cX11_append 30 = .ok (.aload_n 0, 1) := by decide +kernel
theorem dX11_append_31 : decode cX11_append 31 = .ok (.dup, 1) := by decide +kernel
theorem dX11_append_32 : decode cX11_append 32 = .ok (.getfield 84, 3) := by decide +kernel
theorem dX11_append_35 : decode cX11_append 35 = .ok (.iconst 1, 1) := by decide +kernel
theorem dX11_append_36 : decode cX11_append 36 = .ok (.iadd, 1) := by decide +kernel
theorem dX11_append_37 : decode cX11_append 37 = .ok (.putfield 84, 3) := by decide +kernel
theorem dX11_append_40 : decode cX11_append 40 = .ok (.iinc 2 (-8), 3) := by decide +kernel
theorem dX11_append_43 : decode cX11_append 43 = .ok (.goto (-40), 3) := by decide +kernel
theorem dX11_append_46 : decode cX11_append 46 = .ok (.return_, 1) := by decide +kernel
theorem dX11_end_0 : decode cX11_end 0 = .ok (.iload_n 1, 1) := by decide +kernel
theorem dX11_end_1 : decode cX11_end 1 = .ok (.ifCond .lt 11, 3) := by decide +kernel
theorem dX11_end_4 : decode cX11_end 4 = .ok (.iload_n 1, 1) := by decide +kernel
theorem dX11_end_5 : decode cX11_end 5 = .ok (.aload_n 0, 1) := by decide +kernel
theorem dX11_end_6 : decode cX11_end 6 = .ok (.getfield 84, 3) := by decide +kernel
theorem dX11_end_9 : decode cX11_end 9 = .ok (.if_icmp .le 5, 3) := by decide +kernel
theorem dX11_end_12 : decode cX11_end 12 = .ok (.iconst (-1), 1) := by decide +kernel
theorem dX11_end_13 : decode cX11_end 13 = .ok (.ireturn, 1) := by decide +kernel
theorem dX11_end_14 : decode cX11_end 14 = .ok (.aload_n 0, 1) := by decide +kernel
theorem dX11_end_15 : decode cX11_end 15 = .ok (.iload_n 1, 1) := by decide +kernel
theorem dX11_end_16 : decode cX11_end 16 = .ok (.putfield 84, 3) := by decide +kernel
theorem dX11_end_19 : decode cX11_end 19 = .ok (.iload_n 1, 1) := by decide +kernel
theorem dX11_end_20 : decode cX11_end 20 = .ok (.ireturn, 1) := by decide +kernel
theorem dX11_street_0 : decode cX11_street 0 = .ok (.aload_n 0, 1) := by decide +kernel
theorem dX11_street_1 : decode cX11_street 1 = .ok (.invokevirtual 95, 3) := by decide +kernel
theorem dX11_street_4 : decode cX11_street 4 = .ok (.new 98, 3) := by decide +kernel
theorem dX11_street_7 : decode cX11_street 7 = .ok (.dup, 1) := by decide +kernel
theorem dX11_street_8 : decode cX11_street 8 = .ok (.aload_n 0, 1) := by decide +kernel
theorem dX11_street_9 : decode cX11_street 9 = .ok (.getfield 16, 3) := by decide +kernel
theorem dX11_street_12 : decode cX11_street 12 = .ok (.invokespecial 100, 3) := by decide +kernel
theorem dX11_street_15 : decode cX11_street 15 = .ok (.astore_n 1, 1) := by decide +kernel
theorem dX11_street_16 : decode cX11_street 16 = .ok (.aload_n 1, 1) := by decide +kernel
theorem dX11_street_17 : decode cX11_street 17 = .ok (.invokevirtual 101, 3) := by decide +kernel
theorem dX11_street_20 : decode cX11_street 20 = .ok (.ifCond .ne 14, 3) := by decide +kernel
theorem dX11_street_23 : decode cX11_street 23 = .ok (.bipush (-2), 2) := by decide +kernel
theorem dX11_street_25 : decode cX11_street 25 = .ok (.aload_n 0, 1) := by decide +kernel
theorem dX11_street_26 : decode cX11_street 26 = .ok (.getfield 16, 3) := by decide +kernel
theorem dX11_street_29 : decode cX11_street 29 = .ok (.getfield 105, 3) := by decide +kernel
theorem dX11_street_32 : decode cX11_street 32 = .ok (.isub, 1) := by decide +kernel
theorem dX11_street_33 : decode cX11_street 33 = .ok (.ireturn, 1) := by decide +kernel
theorem dX11_street_34 : decode cX11_street 34 = .ok (.aload_n 0, 1) := by decide +kernel
theorem dX11_street_35 : decode cX11_street 35 = .ok (.getfield 38, 3) := by decide +kernel
theorem dX11_street_38 : decode cX11_street 38 = .ok (.aload_n 1, 1) := by decide +kernel
theorem dX11_street_39 : decode cX11_street 39 = .ok (.getfield 108, 3) := by decide +kernel
theorem dX11_street_42 : decode cX11_street 42 = .ok (.invokevirtual 112, 3) := by decide +kernel
theorem dX11_street_45 : decode cX11_street 45 = .ok (.aload_n 0, 1) := by decide +kernel
theorem dX11_street_46 : decode cX11_street 46 = .ok (.getfield 38, 3) := by decide +kernel
theorem dX11_street_49 : decode cX11_street 49 = .ok (.getfield 116, 3) := by decide +kernel
theorem dX11_street_52 : decode cX11_street 52 = .ok (.getfield 119, 3) := by decide +kernel
theorem dX11_street_55 : decode cX11_street 55 = .ok (.ireturn, 1) := by decide +kernel
theorem dX11_rule_0 : decode cX11_rule 0 = .ok (.aload_n 0, 1) := by decide +kernel
theorem dX11_rule_1 : decode cX11_rule 1 = .ok (.getfield 88, 3) := by decide +kernel
theorem dX11_rule_4 : decode cX11_rule 4 = .ok (.bipush 6, 2) := by decide +kernel
theorem dX11_rule_6 : decode cX11_rule 6 = .ok (.if_icmp .lt 5, 3) := by decide +kernel
theorem dX11_rule_9 : decode cX11_rule 9 = .ok (.iconst (-1), 1) := by decide +kernel
theorem dX11_rule_10 : decode cX11_rule 10 = .ok (.ireturn, 1) := by decide +kernel
theorem dX11_rule_11 : decode cX11_rule 11 = .ok (.aload_n 0, 1) := by decide +kernel
theorem dX11_rule_12 : decode cX11_rule 12 = .ok (.invokevirtual 95, 3) := by decide +kernel
theorem dX11_rule_15 : decode cX11_rule 15 = .ok (.aload_n 0, 1) := by decide +kernel
theorem dX11_rule_16 : decode cX11_rule 16 = .ok (.getfield 25, 3) := by decide +kernel
theorem dX11_rule_19 : decode cX11_rule 19 = .ok (.invokevirtual 124, 3) := by decide +kernel
theorem dX11_rule_22 : decode cX11_rule 22 = .ok (.ifCond .ne 14, 3) := by decide +kernel
theorem dX11_rule_25 : decode cX11_rule 25 = .ok (.bipush (-2), 2) := by decide +kernel
theorem dX11_rule_27 : decode cX11_rule 27 = .ok (.aload_n 0, 1) := by decide +kernel
theorem dX11_rule_28 : decode cX11_rule 28 = .ok (.getfield 16, 3) := by decide +kernel
theorem dX11_rule_31 : decode cX11_rule 31 = .ok (.getfield 105, 3) := by decide +kernel
theorem dX11_rule_34 : decode cX11_rule 34 = .ok (.isub, 1) := by decide +kernel
theorem dX11_rule_35 : decode cX11_rule 35 = .ok (.ireturn, 1) := by decide +kernel
theorem dX11_rule_36 : decode cX11_rule 36 = .ok (.aload_n 0, 1) := by decide +kernel
theorem dX11_rule_37 : decode cX11_rule 37 = .ok (.getfield 31, 3) := by decide +kernel
theorem dX11_rule_40 : decode cX11_rule 40 = .ok (.aload_n 0, 1) := by decide +kernel
theorem dX11_rule_41 : decode cX11_rule 41 = .ok (.getfield 88, 3) := by decide +kernel
theorem dX11_rule_44 : decode cX11_rule 44 = .ok (.aload_n 0, 1) := by decide +kernel
theorem dX11_rule_45 : decode cX11_rule 45 = .ok (.getfield 25, 3) := by decide +kernel
theorem dX11_rule_48 : decode cX11_rule 48 = .ok (.invokevirtual 125, 3) := by decide +kernel
theorem dX11_rule_51 : decode cX11_rule 51 = .ok (.aastore, 1) := by decide +kernel
theorem dX11_rule_52 : decode cX11_rule 52 = .ok (.aload_n 0, 1) := by decide +kernel
theorem dX11_rule_53 : decode cX11_rule 53 = .ok (.dup, 1) := by decide +kernel
theorem dX11_rule_54 : decode cX11_rule 54 = .ok (.getfield 88, 3) := by decide +kernel
theorem dX11_rule_57 : decode cX11_rule 57 = .ok (.iconst 1, 1) := by decide +kernel
theorem dX11_rule_58 : decode cX11_rule 58 = .ok (.iadd, 1) := by decide +kernel
theorem dX11_rule_59 : decode cX11_rule 59 = .ok (.putfield 88, 3) := by decide +kernel
theorem dX11_rule_62 : decode cX11_rule 62 = .ok (.aload_n 0, 1) := by decide +kernel
theorem dX11_rule_63 : decode cX11_rule 63 = .ok (.getfield 88, 3) := by decide +kernel
theorem dX11_rule_66 : decode cX11_rule 66 = .ok (.iconst 1, 1) := by decide +kernel
theorem dX11_rule_67 : decode cX11_rule 67 = .ok (.isub, 1) := by decide +kernel
theorem dX11_rule_68 : decode cX11_rule 68 = .ok (.ireturn, 1) := by decide +kernel
theorem dX11_takeTape_0 : decode cX11_takeTape 0 = .ok (.aload_n 0, 1) := by decide +kernel
theorem dX11_takeTape_1 : decode cX11_takeTape 1 = .ok (.getfield 16, 3) := by decide +kernel
theorem dX11_takeTape_4 : decode cX11_takeTape 4 = .ok (.aload_n 0, 1) := by decide +kernel
theorem dX11_takeTape_5 : decode cX11_takeTape 5 = .ok (.getfield 9, 3) := by decide +kernel
theorem dX11_takeTape_8 : decode cX11_takeTape 8 = .ok (.aload_n 0, 1) := by decide +kernel
theorem dX11_takeTape_9 : decode cX11_takeTape 9 = .ok (.getfield 84, 3) := by decide +kernel
theorem dX11_takeTape_12 : decode cX11_takeTape 12 = .ok (.invokevirtual 129, 3) := by decide +kernel
theorem dX11_takeTape_15 : decode cX11_takeTape 15 = .ok (.aload_n 0, 1) := by decide +kernel
theorem dX11_takeTape_16 : decode cX11_takeTape 16 = .ok (.iconst 0, 1) := by decide +kernel
theorem dX11_takeTape_17 : decode cX11_takeTape 17 = .ok (.putfield 84, 3) := by decide +kernel
theorem dX11_takeTape_20 : decode cX11_takeTape 20 = .ok (.return_, 1) := by decide +kernel
theorem dX11_force_0 : decode cX11_force 0 = .ok (.iload_n 1, 1) := by decide +kernel
theorem dX11_force_1 : decode cX11_force 1 = .ok (.iconst (-1), 1) := by decide +kernel
theorem dX11_force_2 : decode cX11_force 2 = .ok (.if_icmp .lt 11, 3) := by decide +kernel
theorem dX11_force_5 : decode cX11_force 5 = .ok (.iload_n 1, 1) := by decide +kernel
theorem dX11_force_6 : decode cX11_force 6 = .ok (.aload_n 0, 1) := by decide +kernel
theorem dX11_force_7 : decode cX11_force 7 = .ok (.getfield 88, 3) := by decide +kernel
theorem dX11_force_10 : decode cX11_force 10 = .ok (.if_icmp .lt 6, 3) := by decide +kernel
theorem dX11_force_13 : decode cX11_force 13 = .ok (.bipush (-2), 2) := by decide +kernel
theorem dX11_force_15 : decode cX11_force 15 = .ok (.ireturn, 1) := by decide +kernel
theorem dX11_force_16 : decode cX11_force 16 = .ok (.aload_n 0, 1) := by decide +kernel
theorem dX11_force_17 : decode cX11_force 17 = .ok (.getfield 38, 3) := by decide +kernel
theorem dX11_force_20 : decode cX11_force 20 = .ok (.getfield 133, 3) := by decide +kernel
theorem dX11_force_23 : decode cX11_force 23 = .ok (.istore_n 2, 1) := by decide +kernel
theorem dX11_force_24 : decode cX11_force 24 = .ok (.aload_n 0, 1) := by decide +kernel
theorem dX11_force_25 : decode cX11_force 25 = .ok (.getfield 38, 3) := by decide +kernel
theorem dX11_force_28 : decode cX11_force 28 = .ok (.iload_n 1, 1) := by decide +kernel
theorem dX11_force_29 : decode cX11_force 29 = .ok (.putfield 133, 3) := by decide +kernel
theorem dX11_force_32 : decode cX11_force 32 = .ok (.iload_n 2, 1) := by decide +kernel
theorem dX11_force_33 : decode cX11_force 33 = .ok (.ireturn, 1) := by decide +kernel
theorem dX11_ruleOf_0 : decode cX11_ruleOf 0 = .ok (.iload_n 1, 1) := by decide +kernel
theorem dX11_ruleOf_1 : decode cX11_ruleOf 1 = .ok (.ifCond .lt 20, 3) := by decide +kernel
theorem dX11_ruleOf_4 : decode cX11_ruleOf 4 = .ok (.iload_n 1, 1) := by decide +kernel
theorem dX11_ruleOf_5 : decode cX11_ruleOf 5 = .ok (.aload_n 0, 1) := by decide +kernel
theorem dX11_ruleOf_6 : decode cX11_ruleOf 6 = .ok (.getfield 88, 3) := by decide +kernel
theorem dX11_ruleOf_9 : decode cX11_ruleOf 9 = .ok (.if_icmp .ge 12, 3) := by decide +kernel
theorem dX11_ruleOf_12 : decode cX11_ruleOf 12 = .ok (.aload_n 0, 1) := by decide +kernel
theorem dX11_ruleOf_13 : decode cX11_ruleOf 13 = .ok (.getfield 31, 3) := by decide +kernel
theorem dX11_ruleOf_16 : decode cX11_ruleOf 16 = .ok (.iload_n 1, 1) := by decide +kernel
theorem dX11_ruleOf_17 : decode cX11_ruleOf 17 = .ok (.aaload, 1) := by decide +kernel
theorem dX11_ruleOf_18 : decode cX11_ruleOf 18 = .ok (.goto 4, 3) := by decide +kernel
theorem dX11_ruleOf_21 : decode cX11_ruleOf 21 = .ok (.aconst_null, 1) := by decide +kernel
theorem dX11_ruleOf_22 : decode cX11_ruleOf 22 = .ok (.areturn, 1) := by decide +kernel
theorem dX11_isCell_0 : decode cX11_isCell 0 = .ok (.iload_n 1, 1) := by decide +kernel
theorem dX11_isCell_1 : decode cX11_isCell 1 = .ok (.ifCond .lt 21, 3) := by decide +kernel
theorem dX11_isCell_4 : decode cX11_isCell 4 = .ok (.iload_n 1, 1) := by decide +kernel
theorem dX11_isCell_5 : decode cX11_isCell 5 = .ok (.aload_n 0, 1) := by decide +kernel
theorem dX11_isCell_6 : decode cX11_isCell 6 = .ok (.getfield 38, 3) := by decide +kernel
theorem dX11_isCell_9 : decode cX11_isCell 9 = .ok (.getfield 116, 3) := by decide +kernel
theorem dX11_isCell_12 : decode cX11_isCell 12 = .ok (.getfield 119, 3) := by decide +kernel
theorem dX11_isCell_15 : decode cX11_isCell 15 = .ok (.if_icmp .ge 7, 3) := by decide +kernel
theorem dX11_isCell_18 : decode cX11_isCell 18 = .ok (.iconst 1, 1) := by decide +kernel
theorem dX11_isCell_19 : decode cX11_isCell 19 = .ok (.goto 4, 3) := by decide +kernel
theorem dX11_isCell_22 : decode cX11_isCell 22 = .ok (.iconst 0, 1) := by decide +kernel
theorem dX11_isCell_23 : decode cX11_isCell 23 = .ok (.ireturn, 1) := by decide +kernel
theorem dX11_isThing_0 : decode cX11_isThing 0 = .ok (.iload_n 1, 1) := by decide +kernel
theorem dX11_isThing_1 : decode cX11_isThing 1 = .ok (.ifCond .lt 21, 3) := by decide +kernel
theorem dX11_isThing_4 : decode cX11_isThing 4 = .ok (.iload_n 1, 1) := by decide +kernel
theorem dX11_isThing_5 : decode cX11_isThing 5 = .ok (.aload_n 0, 1) := by decide +kernel
theorem dX11_isThing_6 : decode cX11_isThing 6 = .ok (.getfield 38, 3) := by decide +kernel
theorem dX11_isThing_9 : decode cX11_isThing 9 = .ok (.getfield 116, 3) := by decide +kernel
theorem dX11_isThing_12 : decode cX11_isThing 12 = .ok (.getfield 136, 3) := by decide +kernel
theorem dX11_isThing_15 : decode cX11_isThing 15 = .ok (.if_icmp .ge 7, 3) := by decide +kernel
theorem dX11_isThing_18 : decode cX11_isThing 18 = .ok (.iconst 1, 1) := by decide +kernel
theorem dX11_isThing_19 : decode cX11_isThing 19 = .ok (.goto 4, 3) := by decide +kernel
theorem dX11_isThing_22 : decode cX11_isThing 22 = .ok (.iconst 0, 1) := by decide +kernel
theorem dX11_isThing_23 : decode cX11_isThing 23 = .ok (.ireturn, 1) := by decide +kernel
theorem dX11_isPainter_0 : decode cX11_isPainter 0 = .ok (.iload_n 1, 1) := by decide +kernel
theorem dX11_isPainter_1 : decode cX11_isPainter 1 = .ok (.ifCond .lt 21, 3) := by decide +kernel
theorem dX11_isPainter_4 : decode cX11_isPainter 4 = .ok (.iload_n 1, 1) := by decide +kernel
theorem dX11_isPainter_5 : decode cX11_isPainter 5 = .ok (.aload_n 0, 1) := by decide +kernel
theorem dX11_isPainter_6 : decode cX11_isPainter 6 = .ok (.getfield 38, 3) := by decide +kernel
theorem dX11_isPainter_9 : decode cX11_isPainter 9 = .ok (.getfield 116, 3) := by decide +kernel
theorem dX11_isPainter_12 : decode cX11_isPainter 12 = .ok (.getfield 139, 3) := by decide +kernel
theorem dX11_isPainter_15 : decode cX11_isPainter 15 = .ok (.if_icmp .ge 7, 3) := by decide +kernel
theorem dX11_isPainter_18 : decode cX11_isPainter 18 = .ok (.iconst 1, 1) := by decide +kernel
theorem dX11_isPainter_19 : decode cX11_isPainter 19 = .ok (.goto 4, 3) := by decide +kernel
theorem dX11_isPainter_22 : decode cX11_isPainter 22 = .ok (.iconst 0, 1) := by decide +kernel
theorem dX11_isPainter_23 : decode cX11_isPainter 23 = .ok (.ireturn, 1) := by decide +kernel
theorem dX11_isWithin_0 : decode cX11_isWithin 0 = .ok (.iload_n 0, 1) := by decide +kernel
theorem dX11_isWithin_1 : decode cX11_isWithin 1 = .ok (.iload_n 1, 1) := by decide +kernel
theorem dX11_isWithin_2 : decode cX11_isWithin 2 = .ok (.if_icmp .lt 12, 3) := by decide +kernel
theorem dX11_isWithin_5 : decode cX11_isWithin 5 = .ok (.iload_n 0, 1) := by decide +kernel
theorem dX11_isWithin_6 : decode cX11_isWithin 6 = .ok (.iload_n 2, 1) := by decide +kernel
theorem dX11_isWithin_7 : decode cX11_isWithin 7 = .ok (.if_icmp .gt 7, 3) := by decide +kernel
theorem dX11_isWithin_10 : decode cX11_isWithin 10 = .ok (.iconst 1, 1) := by decide +kernel
theorem dX11_isWithin_11 : decode cX11_isWithin 11 = .ok (.goto 4, 3) := by decide +kernel
theorem dX11_isWithin_14 : decode cX11_isWithin 14 = .ok (.iconst 0, 1) := by decide +kernel
theorem dX11_isWithin_15 : decode cX11_isWithin 15 = .ok (.ireturn, 1) := by decide +kernel
theorem dX11_isBare_0 : decode cX11_isBare 0 = .ok (.aload_n 0, 1) := by decide +kernel
theorem dX11_isBare_1 : decode cX11_isBare 1 = .ok (.getfield 38, 3) := by decide +kernel
theorem dX11_isBare_4 : decode cX11_isBare 4 = .ok (.getfield 142, 3) := by decide +kernel
theorem dX11_isBare_7 : decode cX11_isBare 7 = .ok (.iload_n 1, 1) := by decide +kernel
theorem dX11_isBare_8 : decode cX11_isBare 8 = .ok (.invokevirtual 145, 3) := by decide +kernel
theorem dX11_isBare_11 : decode cX11_isBare 11 = .ok (.ireturn, 1) := by decide +kernel
theorem dX11_cell_0 : decode cX11_cell 0 = .ok (.aload_n 0, 1) := by decide +kernel
theorem dX11_cell_1 : decode cX11_cell 1 = .ok (.iload_n 1, 1) := by decide +kernel
theorem dX11_cell_2 : decode cX11_cell 2 = .ok (.invokevirtual 149, 3) := by decide +kernel
theorem dX11_cell_5 : decode cX11_cell 5 = .ok (.ifCond .ne 6, 3) := by decide +kernel
theorem dX11_cell_8 : decode cX11_cell 8 = .ok (.bipush (-2), 2) := by decide +kernel
theorem dX11_cell_10 : decode cX11_cell 10 = .ok (.ireturn, 1) := by decide +kernel
theorem dX11_cell_11 : decode cX11_cell 11 = .ok (.aload_n 0, 1) := by decide +kernel
theorem dX11_cell_12 : decode cX11_cell 12 = .ok (.getfield 38, 3) := by decide +kernel
theorem dX11_cell_15 : decode cX11_cell 15 = .ok (.getfield 142, 3) := by decide +kernel
theorem dX11_cell_18 : decode cX11_cell 18 = .ok (.getfield 152, 3) := by decide +kernel
theorem dX11_cell_21 : decode cX11_cell 21 = .ok (.iload_n 1, 1) := by decide +kernel
theorem dX11_cell_22 : decode cX11_cell 22 = .ok (.laload, 1) := by decide +kernel
theorem dX11_cell_23 : decode cX11_cell 23 = .ok (.lstore_n 3, 1) := by decide +kernel
theorem dX11_cell_24 : decode cX11_cell 24 = .ok (.iload_n 2, 1) := by decide +kernel
theorem dX11_cell_25 : decode cX11_cell 25 = .ok (.tableswitch 110 0 4 #[35, 48, 53, 75, 80], 35) := by decide +kernel
theorem dX11_cell_60 : decode cX11_cell 60 = .ok (.aload_n 0, 1) := by decide +kernel
theorem dX11_cell_61 : decode cX11_cell 61 = .ok (.getfield 38, 3) := by decide +kernel
theorem dX11_cell_64 : decode cX11_cell 64 = .ok (.getfield 116, 3) := by decide +kernel
theorem dX11_cell_67 : decode cX11_cell 67 = .ok (.getfield 156, 3) := by decide +kernel
theorem dX11_cell_70 : decode cX11_cell 70 = .ok (.iload_n 1, 1) := by decide +kernel
theorem dX11_cell_71 : decode cX11_cell 71 = .ok (.iaload, 1) := by decide +kernel
theorem dX11_cell_72 : decode cX11_cell 72 = .ok (.ireturn, 1) := by decide +kernel
theorem dX11_cell_73 : decode cX11_cell 73 = .ok (.lload_n 3, 1) := by decide +kernel
theorem dX11_cell_74 : decode cX11_cell 74 = .ok (.invokestatic 159, 3) := by decide +kernel
theorem dX11_cell_77 : decode cX11_cell 77 = .ok (.ireturn, 1) := by decide +kernel
theorem dX11_cell_78 : decode cX11_cell 78 = .ok (.aload_n 0, 1) := by decide +kernel
theorem dX11_cell_79 : decode cX11_cell 79 = .ok (.getfield 38, 3) := by decide +kernel
theorem dX11_cell_82 : decode cX11_cell 82 = .ok (.getfield 116, 3) := by decide +kernel
theorem dX11_cell_85 : decode cX11_cell 85 = .ok (.lload_n 3, 1) := by decide +kernel
theorem dX11_cell_86 : decode cX11_cell 86 = .ok (.aload_n 0, 1) := by decide +kernel
theorem dX11_cell_87 : decode cX11_cell 87 = .ok (.getfield 38, 3) := by decide +kernel
theorem dX11_cell_90 : decode cX11_cell 90 = .ok (.getfield 142, 3) := by decide +kernel
theorem dX11_cell_93 : decode cX11_cell 93 = .ok (.getfield 165, 3) := by decide +kernel
theorem dX11_cell_96 : decode cX11_cell 96 = .ok (.invokevirtual 168, 3) := by decide +kernel
theorem dX11_cell_99 : decode cX11_cell 99 = .ok (.ireturn, 1) := by decide +kernel
theorem dX11_cell_100 : decode cX11_cell 100 = .ok (.lload_n 3, 1) := by decide +kernel
theorem dX11_cell_101 : decode cX11_cell 101 = .ok (.invokestatic 172, 3) := by decide +kernel
theorem dX11_cell_104 : decode cX11_cell 104 = .ok (.ireturn, 1) := by decide +kernel
theorem dX11_cell_105 : decode cX11_cell 105 = .ok (.aload_n 0, 1) := by decide +kernel
theorem dX11_cell_106 : decode cX11_cell 106 = .ok (.getfield 38, 3) := by decide +kernel
theorem dX11_cell_109 : decode cX11_cell 109 = .ok (.getfield 116, 3) := by decide +kernel
theorem dX11_cell_112 : decode cX11_cell 112 = .ok (.lload_n 3, 1) := by decide +kernel
theorem dX11_cell_113 : decode cX11_cell 113 = .ok (.aload_n 0, 1) := by decide +kernel
theorem dX11_cell_114 : decode cX11_cell 114 = .ok (.getfield 38, 3) := by decide +kernel
theorem dX11_cell_117 : decode cX11_cell 117 = .ok (.getfield 142, 3) := by decide +kernel
theorem dX11_cell_120 : decode cX11_cell 120 = .ok (.getfield 165, 3) := by decide +kernel
theorem dX11_cell_123 : decode cX11_cell 123 = .ok (.invokevirtual 175, 3) := by decide +kernel
theorem dX11_cell_126 : decode cX11_cell 126 = .ok (.ifCond .eq 7, 3) := by decide +kernel
theorem dX11_cell_129 : decode cX11_cell 129 = .ok (.iconst 1, 1) := by decide +kernel
theorem dX11_cell_130 : decode cX11_cell 130 = .ok (.goto 4, 3) := by decide +kernel
theorem dX11_cell_133 : decode cX11_cell 133 = .ok (.iconst 0, 1) := by decide +kernel
theorem dX11_cell_134 : decode cX11_cell 134 = .ok (.ireturn, 1) := by decide +kernel
theorem dX11_cell_135 : decode cX11_cell 135 = .ok (.bipush (-2), 2) := by decide +kernel
theorem dX11_cell_137 : decode cX11_cell 137 = .ok (.ireturn, 1) := by decide +kernel
theorem dX11_coat_0 : decode cX11_coat 0 = .ok (.aload_n 0, 1) := by decide +kernel
theorem dX11_coat_1 : decode cX11_coat 1 = .ok (.iload_n 1, 1) := by decide +kernel
theorem dX11_coat_2 : decode cX11_coat 2 = .ok (.invokevirtual 149, 3) := by decide +kernel
theorem dX11_coat_5 : decode cX11_coat 5 = .ok (.ifCond .eq 26, 3) := by decide +kernel
theorem dX11_coat_8 : decode cX11_coat 8 = .ok (.iload_n 2, 1) := by decide +kernel
theorem dX11_coat_9 : decode cX11_coat 9 = .ok (.ifCond .lt 22, 3) := by decide +kernel
theorem dX11_coat_12 : decode cX11_coat 12 = .ok (.iload_n 2, 1) := by decide +kernel
theorem dX11_coat_13 : decode cX11_coat 13 = .ok (.aload_n 0, 1) := by decide +kernel
theorem dX11_coat_14 : decode cX11_coat 14 = .ok (.getfield 38, 3) := by decide +kernel
theorem dX11_coat_17 : decode cX11_coat 17 = .ok (.getfield 142, 3) := by decide +kernel
theorem dX11_coat_20 : decode cX11_coat 20 = .ok (.getfield 152, 3) := by decide +kernel
theorem dX11_coat_23 : decode cX11_coat 23 = .ok (.iload_n 1, 1) := by decide +kernel
theorem dX11_coat_24 : decode cX11_coat 24 = .ok (.laload, 1) := by decide +kernel
theorem dX11_coat_25 : decode cX11_coat 25 = .ok (.invokestatic 159, 3) := by decide +kernel
theorem dX11_coat_28 : decode cX11_coat 28 = .ok (.if_icmp .lt 6, 3) := by decide +kernel
theorem dX11_coat_31 : decode cX11_coat 31 = .ok (.bipush (-2), 2) := by decide +kernel
theorem dX11_coat_33 : decode cX11_coat 33 = .ok (.ireturn, 1) := by decide +kernel
theorem dX11_coat_34 : decode cX11_coat 34 = .ok (.aload_n 0, 1) := by decide +kernel
theorem dX11_coat_35 : decode cX11_coat 35 = .ok (.getfield 38, 3) := by decide +kernel
theorem dX11_coat_38 : decode cX11_coat 38 = .ok (.getfield 142, 3) := by decide +kernel
theorem dX11_coat_41 : decode cX11_coat 41 = .ok (.getfield 152, 3) := by decide +kernel
theorem dX11_coat_44 : decode cX11_coat 44 = .ok (.iload_n 1, 1) := by decide +kernel
theorem dX11_coat_45 : decode cX11_coat 45 = .ok (.laload, 1) := by decide +kernel
theorem dX11_coat_46 : decode cX11_coat 46 = .ok (.iload_n 2, 1) := by decide +kernel
theorem dX11_coat_47 : decode cX11_coat 47 = .ok (.invokestatic 179, 3) := by decide +kernel
theorem dX11_coat_50 : decode cX11_coat 50 = .ok (.lstore 4, 2) := by decide +kernel
theorem dX11_coat_52 : decode cX11_coat 52 = .ok (.lload 4, 2) := by decide +kernel
theorem dX11_coat_54 : decode cX11_coat 54 = .ok (.invokestatic 172, 3) := by decide +kernel
theorem dX11_coat_57 : decode cX11_coat 57 = .ok (.istore 6, 2) := by decide +kernel
theorem dX11_coat_59 : decode cX11_coat 59 = .ok (.iload_n 3, 1) := by decide +kernel
theorem dX11_coat_60 : decode cX11_coat 60 = .ok (.tableswitch 65 0 2 #[28, 31, 59], 28) := by decide +kernel
theorem dX11_coat_88 : decode cX11_coat 88 = .ok (.iload 6, 2) := by decide +kernel
theorem dX11_coat_90 : decode cX11_coat 90 = .ok (.ireturn, 1) := by decide +kernel
theorem dX11_coat_91 : decode cX11_coat 91 = .ok (.aload_n 0, 1) := by decide +kernel
theorem dX11_coat_92 : decode cX11_coat 92 = .ok (.iload 6, 2) := by decide +kernel
theorem dX11_coat_94 : decode cX11_coat 94 = .ok (.invokevirtual 183, 3) := by decide +kernel
theorem dX11_coat_97 : decode cX11_coat 97 = .ok (.ifCond .eq 19, 3) := by decide +kernel
theorem dX11_coat_100 : decode cX11_coat 100 = .ok (.aload_n 0, 1) := by decide +kernel
theorem dX11_coat_101 : decode cX11_coat 101 = .ok (.getfield 38, 3) := by decide +kernel
theorem dX11_coat_104 : decode cX11_coat 104 = .ok (.getfield 116, 3) := by decide +kernel
theorem dX11_coat_107 : decode cX11_coat 107 = .ok (.getfield 186, 3) := by decide +kernel
theorem dX11_coat_110 : decode cX11_coat 110 = .ok (.iload 6, 2) := by decide +kernel
theorem dX11_coat_112 : decode cX11_coat 112 = .ok (.iaload, 1) := by decide +kernel
theorem dX11_coat_113 : decode cX11_coat 113 = .ok (.goto 5, 3) := by decide +kernel
theorem dX11_coat_116 : decode cX11_coat 116 = .ok (.bipush (-2), 2) := by decide +kernel
theorem dX11_coat_118 : decode cX11_coat 118 = .ok (.ireturn, 1) := by decide +kernel
theorem dX11_coat_119 : decode cX11_coat 119 = .ok (.lload 4, 2) := by decide +kernel
theorem dX11_coat_121 : decode cX11_coat 121 = .ok (.invokestatic 189, 3) := by decide +kernel
theorem dX11_coat_124 : decode cX11_coat 124 = .ok (.ireturn, 1) := by decide +kernel
theorem dX11_coat_125 : decode cX11_coat 125 = .ok (.bipush (-2), 2) := by decide +kernel
theorem dX11_coat_127 : decode cX11_coat 127 = .ok (.ireturn, 1) := by decide +kernel
theorem dX11_thing_0 : decode cX11_thing 0 = .ok (.aload_n 0, 1) := by decide +kernel
theorem dX11_thing_1 : decode cX11_thing 1 = .ok (.iload_n 1, 1) := by decide +kernel
theorem dX11_thing_2 : decode cX11_thing 2 = .ok (.invokevirtual 192, 3) := by decide +kernel
theorem dX11_thing_5 : decode cX11_thing 5 = .ok (.ifCond .ne 6, 3) := by decide +kernel
theorem dX11_thing_8 : decode cX11_thing 8 = .ok (.bipush (-2), 2) := by decide +kernel
theorem dX11_thing_10 : decode cX11_thing 10 = .ok (.ireturn, 1) := by decide +kernel
theorem dX11_thing_11 : decode cX11_thing 11 = .ok (.iload_n 2, 1) := by decide +kernel
theorem dX11_thing_12 : decode cX11_thing 12 = .ok (.tableswitch 108 0 4 #[36, 49, 62, 75, 94], 36) := by decide +kernel
theorem dX11_thing_48 : decode cX11_thing 48 = .ok (.aload_n 0, 1) := by decide +kernel
theorem dX11_thing_49 : decode cX11_thing 49 = .ok (.getfield 38, 3) := by decide +kernel
theorem dX11_thing_52 : decode cX11_thing 52 = .ok (.getfield 116, 3) := by decide +kernel
theorem dX11_thing_55 : decode cX11_thing 55 = .ok (.getfield 195, 3) := by decide +kernel
theorem dX11_thing_58 : decode cX11_thing 58 = .ok (.iload_n 1, 1) := by decide +kernel
theorem dX11_thing_59 : decode cX11_thing 59 = .ok (.iaload, 1) := by decide +kernel
theorem dX11_thing_60 : decode cX11_thing 60 = .ok (.ireturn, 1) := by decide +kernel
theorem dX11_thing_61 : decode cX11_thing 61 = .ok (.aload_n 0, 1) := by decide +kernel
theorem dX11_thing_62 : decode cX11_thing 62 = .ok (.getfield 38, 3) := by decide +kernel
theorem dX11_thing_65 : decode cX11_thing 65 = .ok (.getfield 116, 3) := by decide +kernel
theorem dX11_thing_68 : decode cX11_thing 68 = .ok (.getfield 198, 3) := by decide +kernel
theorem dX11_thing_71 : decode cX11_thing 71 = .ok (.iload_n 1, 1) := by decide +kernel
theorem dX11_thing_72 : decode cX11_thing 72 = .ok (.iaload, 1) := by decide +kernel
theorem dX11_thing_73 : decode cX11_thing 73 = .ok (.ireturn, 1) := by decide +kernel
theorem dX11_thing_74 : decode cX11_thing 74 = .ok (.aload_n 0, 1) := by decide +kernel
theorem dX11_thing_75 : decode cX11_thing 75 = .ok (.getfield 38, 3) := by decide +kernel
theorem dX11_thing_78 : decode cX11_thing 78 = .ok (.getfield 116, 3) := by decide +kernel
theorem dX11_thing_81 : decode cX11_thing 81 = .ok (.getfield 201, 3) := by decide +kernel
theorem dX11_thing_84 : decode cX11_thing 84 = .ok (.iload_n 1, 1) := by decide +kernel
theorem dX11_thing_85 : decode cX11_thing 85 = .ok (.iaload, 1) := by decide +kernel
theorem dX11_thing_86 : decode cX11_thing 86 = .ok (.ireturn, 1) := by decide +kernel
theorem dX11_thing_87 : decode cX11_thing 87 = .ok (.aload_n 0, 1) := by decide +kernel
theorem dX11_thing_88 : decode cX11_thing 88 = .ok (.getfield 38, 3) := by decide +kernel
theorem dX11_thing_91 : decode cX11_thing 91 = .ok (.getfield 116, 3) := by decide +kernel
theorem dX11_thing_94 : decode cX11_thing 94 = .ok (.aload_n 0, 1) := by decide +kernel
theorem dX11_thing_95 : decode cX11_thing 95 = .ok (.getfield 38, 3) := by decide +kernel
theorem dX11_thing_98 : decode cX11_thing 98 = .ok (.getfield 142, 3) := by decide +kernel
theorem dX11_thing_101 : decode cX11_thing 101 = .ok (.iload_n 1, 1) := by decide +kernel
theorem dX11_thing_102 : decode cX11_thing 102 = .ok (.invokevirtual 204, 3) := by decide +kernel
theorem dX11_thing_105 : decode cX11_thing 105 = .ok (.ireturn, 1) := by decide +kernel
theorem dX11_thing_106 : decode cX11_thing 106 = .ok (.aload_n 0, 1) := by decide +kernel
theorem dX11_thing_107 : decode cX11_thing 107 = .ok (.iload_n 1, 1) := by decide +kernel
theorem dX11_thing_108 : decode cX11_thing 108 = .ok (.invokevirtual 208, 3) := by decide +kernel
theorem dX11_thing_111 : decode cX11_thing 111 = .ok (.ifCond .eq 7, 3) := by decide +kernel
theorem dX11_thing_114 : decode cX11_thing 114 = .ok (.iconst 1, 1) := by decide +kernel
theorem dX11_thing_115 : decode cX11_thing 115 = .ok (.goto 4, 3) := by decide +kernel
theorem dX11_thing_118 : decode cX11_thing 118 = .ok (.iconst 0, 1) := by decide +kernel
theorem dX11_thing_119 : decode cX11_thing 119 = .ok (.ireturn, 1) := by decide +kernel
theorem dX11_thing_120 : decode cX11_thing 120 = .ok (.bipush (-2), 2) := by decide +kernel
theorem dX11_thing_122 : decode cX11_thing 122 = .ok (.ireturn, 1) := by decide +kernel
theorem dX11_painter_0 : decode cX11_painter 0 = .ok (.aload_n 0, 1) := by decide +kernel
theorem dX11_painter_1 : decode cX11_painter 1 = .ok (.iload_n 1, 1) := by decide +kernel
theorem dX11_painter_2 : decode cX11_painter 2 = .ok (.invokevirtual 183, 3) := by decide +kernel
theorem dX11_painter_5 : decode cX11_painter 5 = .ok (.ifCond .ne 5, 3) := by decide +kernel
theorem dX11_painter_8 : decode cX11_painter 8 = .ok (.iconst (-1), 1) := by decide +kernel
theorem dX11_painter_9 : decode cX11_painter 9 = .ok (.ireturn, 1) := by decide +kernel
theorem dX11_painter_10 : decode cX11_painter 10 = .ok (.iload_n 2, 1) := by decide +kernel
theorem dX11_painter_11 : decode cX11_painter 11 = .ok (.tableswitch 67 0 3 #[29, 42, 55, 61], 29) := by decide +kernel
theorem dX11_painter_40 : decode cX11_painter 40 = .ok (.aload_n 0, 1) := by decide +kernel
theorem dX11_painter_41 : decode cX11_painter 41 = .ok (.getfield 38, 3) := by decide +kernel
theorem dX11_painter_44 : decode cX11_painter 44 = .ok (.getfield 116, 3) := by decide +kernel
theorem dX11_painter_47 : decode cX11_painter 47 = .ok (.getfield 186, 3) := by decide +kernel
theorem dX11_painter_50 : decode cX11_painter 50 = .ok (.iload_n 1, 1) := by decide +kernel
theorem dX11_painter_51 : decode cX11_painter 51 = .ok (.iaload, 1) := by decide +kernel
theorem dX11_painter_52 : decode cX11_painter 52 = .ok (.ireturn, 1) := by decide +kernel
theorem dX11_painter_53 : decode cX11_painter 53 = .ok (.aload_n 0, 1) := by decide +kernel
theorem dX11_painter_54 : decode cX11_painter 54 = .ok (.getfield 38, 3) := by decide +kernel
theorem dX11_painter_57 : decode cX11_painter 57 = .ok (.getfield 142, 3) := by decide +kernel
theorem dX11_painter_60 : decode cX11_painter 60 = .ok (.getfield 209, 3) := by decide +kernel
theorem dX11_painter_63 : decode cX11_painter 63 = .ok (.iload_n 1, 1) := by decide +kernel
theorem dX11_painter_64 : decode cX11_painter 64 = .ok (.iaload, 1) := by decide +kernel
theorem dX11_painter_65 : decode cX11_painter 65 = .ok (.ireturn, 1) := by decide +kernel
theorem dX11_painter_66 : decode cX11_painter 66 = .ok (.aload_n 0, 1) := by decide +kernel
theorem dX11_painter_67 : decode cX11_painter 67 = .ok (.iload_n 1, 1) := by decide +kernel
theorem dX11_painter_68 : decode cX11_painter 68 = .ok (.invokevirtual 212, 3) := by decide +kernel
theorem dX11_painter_71 : decode cX11_painter 71 = .ok (.ireturn, 1) := by decide +kernel
theorem dX11_painter_72 : decode cX11_painter 72 = .ok (.aload_n 0, 1) := by decide +kernel
theorem dX11_painter_73 : decode cX11_painter 73 = .ok (.iload_n 1, 1) := by decide +kernel
theorem dX11_painter_74 : decode cX11_painter 74 = .ok (.invokevirtual 216, 3) := by decide +kernel
theorem dX11_painter_77 : decode cX11_painter 77 = .ok (.ireturn, 1) := by decide +kernel
theorem dX11_painter_78 : decode cX11_painter 78 = .ok (.iconst (-1), 1) := by decide +kernel
theorem dX11_painter_79 : decode cX11_painter 79 = .ok (.ireturn, 1) := by decide +kernel
theorem dX11_cellsOwnedBy_0 : decode cX11_cellsOwnedBy 0 = .ok (.iconst 0, 1) := by decide +kernel
theorem dX11_cellsOwnedBy_1 : decode cX11_cellsOwnedBy 1 = .ok (.istore_n 2, 1) := by decide +kernel
theorem dX11_cellsOwnedBy_2 : decode cX11_cellsOwnedBy 2 = .ok (.iconst 0, 1) := by decide +kernel
theorem dX11_cellsOwnedBy_3 : decode cX11_cellsOwnedBy 3 = .ok (.istore_n 3, 1) := by decide +kernel
theorem dX11_cellsOwnedBy_4 : decode cX11_cellsOwnedBy 4 = .ok (.iload_n 3, 1) := by decide +kernel
theorem dX11_cellsOwnedBy_5 : decode cX11_cellsOwnedBy 5 = .ok (.aload_n 0, 1) := by decide +kernel
theorem dX11_cellsOwnedBy_6 : decode cX11_cellsOwnedBy 6 = .ok (.getfield 38, 3) := by decide +kernel
theorem dX11_cellsOwnedBy_9 : decode cX11_cellsOwnedBy 9 = .ok (.getfield 116, 3) := by decide +kernel
theorem dX11_cellsOwnedBy_12 : decode cX11_cellsOwnedBy 12 = .ok (.getfield 119, 3) := by decide +kernel
theorem dX11_cellsOwnedBy_15 : decode cX11_cellsOwnedBy 15 = .ok (.if_icmp .ge 51, 3) := by decide +kernel
theorem dX11_cellsOwnedBy_18 : decode cX11_cellsOwnedBy 18 = .ok (.aload_n 0, 1) := by decide +kernel
theorem dX11_cellsOwnedBy_19 : decode cX11_cellsOwnedBy 19 = .ok (.getfield 38, 3) := by decide +kernel
theorem dX11_cellsOwnedBy_22 : decode cX11_cellsOwnedBy 22 = .ok (.getfield 116, 3) := by decide +kernel
theorem dX11_cellsOwnedBy_25 : decode cX11_cellsOwnedBy 25 = .ok (.aload_n 0, 1) := by decide +kernel
theorem dX11_cellsOwnedBy_26 : decode cX11_cellsOwnedBy 26 = .ok (.getfield 38, 3) := by decide +kernel
theorem dX11_cellsOwnedBy_29 : decode cX11_cellsOwnedBy 29 = .ok (.getfield 142, 3) := by decide +kernel
theorem dX11_cellsOwnedBy_32 : decode cX11_cellsOwnedBy 32 = .ok (.getfield 152, 3) := by decide +kernel
theorem dX11_cellsOwnedBy_35 : decode cX11_cellsOwnedBy 35 = .ok (.iload_n 3, 1) := by decide +kernel
theorem dX11_cellsOwnedBy_36 : decode cX11_cellsOwnedBy 36 = .ok (.laload, 1) := by decide +kernel
theorem dX11_cellsOwnedBy_37 : decode cX11_cellsOwnedBy 37 = .ok (.aload_n 0, 1) := by decide +kernel
theorem dX11_cellsOwnedBy_38 : decode cX11_cellsOwnedBy 38 = .ok (.getfield 38, 3) := by decide +kernel
theorem dX11_cellsOwnedBy_41 : decode cX11_cellsOwnedBy 41 = .ok (.getfield 142, 3) := by decide +kernel
theorem dX11_cellsOwnedBy_44 : decode cX11_cellsOwnedBy 44 = .ok (.getfield 165, 3) := by decide +kernel
theorem dX11_cellsOwnedBy_47 : decode cX11_cellsOwnedBy 47 = .ok (.invokevirtual 168, 3) := by decide +kernel
theorem dX11_cellsOwnedBy_50 : decode cX11_cellsOwnedBy 50 = .ok (.iload_n 1, 1) := by decide +kernel
theorem dX11_cellsOwnedBy_51 : decode cX11_cellsOwnedBy 51 = .ok (.if_icmp .ne 9, 3) := by decide +kernel
theorem dX11_cellsOwnedBy_54 : decode cX11_cellsOwnedBy 54 = .ok (.iload_n 2, 1) := by decide +kernel
theorem dX11_cellsOwnedBy_55 : decode cX11_cellsOwnedBy 55 = .ok (.iconst 1, 1) := by decide +kernel
theorem dX11_cellsOwnedBy_56 : decode cX11_cellsOwnedBy 56 = .ok (.iload_n 3, 1) := by decide +kernel
theorem dX11_cellsOwnedBy_57 : decode cX11_cellsOwnedBy 57 = .ok (.ishl, 1) := by decide +kernel
theorem dX11_cellsOwnedBy_58 : decode cX11_cellsOwnedBy 58 = .ok (.ior, 1) := by decide +kernel
theorem dX11_cellsOwnedBy_59 : decode cX11_cellsOwnedBy 59 = .ok (.istore_n 2, 1) := by decide +kernel
theorem dX11_cellsOwnedBy_60 : decode cX11_cellsOwnedBy 60 = .ok (.iinc 3 1, 3) := by decide +kernel
theorem dX11_cellsOwnedBy_63 : decode cX11_cellsOwnedBy 63 = .ok (.goto (-59), 3) := by decide +kernel
theorem dX11_cellsOwnedBy_66 : decode cX11_cellsOwnedBy 66 = .ok (.iload_n 2, 1) := by decide +kernel
theorem dX11_cellsOwnedBy_67 : decode cX11_cellsOwnedBy 67 = .ok (.ireturn, 1) := by decide +kernel
theorem dX11_thingsOwnedBy_0 : decode cX11_thingsOwnedBy 0 = .ok (.iconst 0, 1) := by decide +kernel
theorem dX11_thingsOwnedBy_1 : decode cX11_thingsOwnedBy 1 = .ok (.istore_n 2, 1) := by decide +kernel
theorem dX11_thingsOwnedBy_2 : decode cX11_thingsOwnedBy 2 = .ok (.iconst 0, 1) := by decide +kernel
theorem dX11_thingsOwnedBy_3 : decode cX11_thingsOwnedBy 3 = .ok (.istore_n 3, 1) := by decide +kernel
theorem dX11_thingsOwnedBy_4 : decode cX11_thingsOwnedBy 4 = .ok (.iload_n 3, 1) := by decide +kernel
theorem dX11_thingsOwnedBy_5 : decode cX11_thingsOwnedBy 5 = .ok (.aload_n 0, 1) := by decide +kernel
theorem dX11_thingsOwnedBy_6 : decode cX11_thingsOwnedBy 6 = .ok (.getfield 38, 3) := by decide +kernel
theorem dX11_thingsOwnedBy_9 : decode cX11_thingsOwnedBy 9 = .ok (.getfield 116, 3) := by decide +kernel
theorem dX11_thingsOwnedBy_12 : decode cX11_thingsOwnedBy 12 = .ok (.getfield 136, 3) := by decide +kernel
theorem dX11_thingsOwnedBy_15 : decode cX11_thingsOwnedBy 15 = .ok (.if_icmp .ge 37, 3) := by decide +kernel
theorem dX11_thingsOwnedBy_18 : decode cX11_thingsOwnedBy 18 = .ok (.aload_n 0, 1) := by decide +kernel
theorem dX11_thingsOwnedBy_19 : decode cX11_thingsOwnedBy 19 = .ok (.getfield 38, 3) := by decide +kernel
theorem dX11_thingsOwnedBy_22 : decode cX11_thingsOwnedBy 22 = .ok (.getfield 116, 3) := by decide +kernel
theorem dX11_thingsOwnedBy_25 : decode cX11_thingsOwnedBy 25 = .ok (.aload_n 0, 1) := by decide +kernel
theorem dX11_thingsOwnedBy_26 : decode cX11_thingsOwnedBy 26 = .ok (.getfield 38, 3) := by decide +kernel
theorem dX11_thingsOwnedBy_29 : decode cX11_thingsOwnedBy 29 = .ok (.getfield 142, 3) := by decide +kernel
theorem dX11_thingsOwnedBy_32 : decode cX11_thingsOwnedBy 32 = .ok (.iload_n 3, 1) := by decide +kernel
theorem dX11_thingsOwnedBy_33 : decode cX11_thingsOwnedBy 33 = .ok (.invokevirtual 204, 3) := by decide +kernel
theorem dX11_thingsOwnedBy_36 : decode cX11_thingsOwnedBy 36 = .ok (.iload_n 1, 1) := by decide +kernel
theorem dX11_thingsOwnedBy_37 : decode cX11_thingsOwnedBy 37 = .ok (.if_icmp .ne 9, 3) := by decide +kernel
theorem dX11_thingsOwnedBy_40 : decode cX11_thingsOwnedBy 40 = .ok (.iload_n 2, 1) := by decide +kernel
theorem dX11_thingsOwnedBy_41 : decode cX11_thingsOwnedBy 41 = .ok (.iconst 1, 1) := by decide +kernel
theorem dX11_thingsOwnedBy_42 : decode cX11_thingsOwnedBy 42 = .ok (.iload_n 3, 1) := by decide +kernel
theorem dX11_thingsOwnedBy_43 : decode cX11_thingsOwnedBy 43 = .ok (.ishl, 1) := by decide +kernel
theorem dX11_thingsOwnedBy_44 : decode cX11_thingsOwnedBy 44 = .ok (.ior, 1) := by decide +kernel
theorem dX11_thingsOwnedBy_45 : decode cX11_thingsOwnedBy 45 = .ok (.istore_n 2, 1) := by decide +kernel
theorem dX11_thingsOwnedBy_46 : decode cX11_thingsOwnedBy 46 = .ok (.iinc 3 1, 3) := by decide +kernel
theorem dX11_thingsOwnedBy_49 : decode cX11_thingsOwnedBy 49 = .ok (.goto (-45), 3) := by decide +kernel
theorem dX11_thingsOwnedBy_52 : decode cX11_thingsOwnedBy 52 = .ok (.iload_n 2, 1) := by decide +kernel
theorem dX11_thingsOwnedBy_53 : decode cX11_thingsOwnedBy 53 = .ok (.ireturn, 1) := by decide +kernel
theorem dX11_rain_0 : decode cX11_rain 0 = .ok (.iload_n 1, 1) := by decide +kernel
theorem dX11_rain_1 : decode cX11_rain 1 = .ok (.ifCond .lt 16, 3) := by decide +kernel
theorem dX11_rain_4 : decode cX11_rain 4 = .ok (.aload_n 0, 1) := by decide +kernel
theorem dX11_rain_5 : decode cX11_rain 5 = .ok (.getfield 38, 3) := by decide +kernel
theorem dX11_rain_8 : decode cX11_rain 8 = .ok (.getfield 116, 3) := by decide +kernel
theorem dX11_rain_11 : decode cX11_rain 11 = .ok (.getfield 219, 3) := by decide +kernel
theorem dX11_rain_14 : decode cX11_rain 14 = .ok (.ifCond .ne 5, 3) := by decide +kernel
theorem dX11_rain_17 : decode cX11_rain 17 = .ok (.iconst (-1), 1) := by decide +kernel
theorem dX11_rain_18 : decode cX11_rain 18 = .ok (.ireturn, 1) := by decide +kernel
theorem dX11_rain_19 : decode cX11_rain 19 = .ok (.aload_n 0, 1) := by decide +kernel
theorem dX11_rain_20 : decode cX11_rain 20 = .ok (.getfield 38, 3) := by decide +kernel
theorem dX11_rain_23 : decode cX11_rain 23 = .ok (.getfield 116, 3) := by decide +kernel
theorem dX11_rain_26 : decode cX11_rain 26 = .ok (.iload_n 1, 1) := by decide +kernel
theorem dX11_rain_27 : decode cX11_rain 27 = .ok (.invokevirtual 223, 3) := by decide +kernel
theorem dX11_rain_30 : decode cX11_rain 30 = .ok (.ifCond .eq 7, 3) := by decide +kernel
theorem dX11_rain_33 : decode cX11_rain 33 = .ok (.iconst 1, 1) := by decide +kernel
theorem dX11_rain_34 : decode cX11_rain 34 = .ok (.goto 4, 3) := by decide +kernel
theorem dX11_rain_37 : decode cX11_rain 37 = .ok (.iconst 0, 1) := by decide +kernel
theorem dX11_rain_38 : decode cX11_rain 38 = .ok (.ireturn, 1) := by decide +kernel
theorem dX11_count_0 : decode cX11_count 0 = .ok (.iload_n 1, 1) := by decide +kernel
theorem dX11_count_1 : decode cX11_count 1 = .ok (.tableswitch 120 7 15 #[51, 56, 64, 75, 80, 91, 99, 107, 115], 51) := by decide +kernel
theorem dX11_count_52 : decode cX11_count 52 = .ok (.aload_n 0, 1) := by decide +kernel
theorem dX11_count_53 : decode cX11_count 53 = .ok (.getfield 88, 3) := by decide +kernel
theorem dX11_count_56 : decode cX11_count 56 = .ok (.ireturn, 1) := by decide +kernel
theorem dX11_count_57 : decode cX11_count 57 = .ok (.aload_n 0, 1) := by decide +kernel
theorem dX11_count_58 : decode cX11_count 58 = .ok (.getfield 38, 3) := by decide +kernel
theorem dX11_count_61 : decode cX11_count 61 = .ok (.getfield 133, 3) := by decide +kernel
theorem dX11_count_64 : decode cX11_count 64 = .ok (.ireturn, 1) := by decide +kernel
theorem dX11_count_65 : decode cX11_count 65 = .ok (.aload_n 0, 1) := by decide +kernel
theorem dX11_count_66 : decode cX11_count 66 = .ok (.getfield 38, 3) := by decide +kernel
theorem dX11_count_69 : decode cX11_count 69 = .ok (.getfield 142, 3) := by decide +kernel
theorem dX11_count_72 : decode cX11_count 72 = .ok (.getfield 165, 3) := by decide +kernel
theorem dX11_count_75 : decode cX11_count 75 = .ok (.ireturn, 1) := by decide +kernel
theorem dX11_count_76 : decode cX11_count 76 = .ok (.aload_n 0, 1) := by decide +kernel
theorem dX11_count_77 : decode cX11_count 77 = .ok (.invokevirtual 226, 3) := by decide +kernel
theorem dX11_count_80 : decode cX11_count 80 = .ok (.ireturn, 1) := by decide +kernel
theorem dX11_count_81 : decode cX11_count 81 = .ok (.aload_n 0, 1) := by decide +kernel
theorem dX11_count_82 : decode cX11_count 82 = .ok (.getfield 38, 3) := by decide +kernel
theorem dX11_count_85 : decode cX11_count 85 = .ok (.getfield 142, 3) := by decide +kernel
theorem dX11_count_88 : decode cX11_count 88 = .ok (.getfield 230, 3) := by decide +kernel
theorem dX11_count_91 : decode cX11_count 91 = .ok (.ireturn, 1) := by decide +kernel
theorem dX11_count_92 : decode cX11_count 92 = .ok (.aload_n 0, 1) := by decide +kernel
theorem dX11_count_93 : decode cX11_count 93 = .ok (.getfield 38, 3) := by decide +kernel
theorem dX11_count_96 : decode cX11_count 96 = .ok (.getfield 233, 3) := by decide +kernel
theorem dX11_count_99 : decode cX11_count 99 = .ok (.ireturn, 1) := by decide +kernel
theorem dX11_count_100 : decode cX11_count 100 = .ok (.aload_n 0, 1) := by decide +kernel
theorem dX11_count_101 : decode cX11_count 101 = .ok (.getfield 38, 3) := by decide +kernel
theorem dX11_count_104 : decode cX11_count 104 = .ok (.getfield 236, 3) := by decide +kernel
theorem dX11_count_107 : decode cX11_count 107 = .ok (.ireturn, 1) := by decide +kernel
theorem dX11_count_108 : decode cX11_count 108 = .ok (.aload_n 0, 1) := by decide +kernel
theorem dX11_count_109 : decode cX11_count 109 = .ok (.getfield 38, 3) := by decide +kernel
theorem dX11_count_112 : decode cX11_count 112 = .ok (.getfield 239, 3) := by decide +kernel
theorem dX11_count_115 : decode cX11_count 115 = .ok (.ireturn, 1) := by decide +kernel
theorem dX11_count_116 : decode cX11_count 116 = .ok (.aload_n 0, 1) := by decide +kernel
theorem dX11_count_117 : decode cX11_count 117 = .ok (.getfield 84, 3) := by decide +kernel
theorem dX11_count_120 : decode cX11_count 120 = .ok (.ireturn, 1) := by decide +kernel
theorem dX11_count_121 : decode cX11_count 121 = .ok (.aload_n 0, 1) := by decide +kernel
theorem dX11_count_122 : decode cX11_count 122 = .ok (.iload_n 1, 1) := by decide +kernel
theorem dX11_count_123 : decode cX11_count 123 = .ok (.invokevirtual 242, 3) := by decide +kernel
theorem dX11_count_126 : decode cX11_count 126 = .ok (.ireturn, 1) := by decide +kernel
theorem dX11_countOfStreet_0 : decode cX11_countOfStreet 0 = .ok (.iload_n 1, 1) := by decide +kernel
theorem dX11_countOfStreet_1 : decode cX11_countOfStreet 1 = .ok (.tableswitch 128 0 6 #[43, 54, 65, 76, 87, 98, 109], 43) := by decide +kernel
theorem dX11_countOfStreet_44 : decode cX11_countOfStreet 44 = .ok (.aload_n 0, 1) := by decide +kernel
theorem dX11_countOfStreet_45 : decode cX11_countOfStreet 45 = .ok (.getfield 38, 3) := by decide +kernel
theorem dX11_countOfStreet_48 : decode cX11_countOfStreet 48 = .ok (.getfield 116, 3) := by decide +kernel
theorem dX11_countOfStreet_51 : decode cX11_countOfStreet 51 = .ok (.getfield 245, 3) := by decide +kernel
theorem dX11_countOfStreet_54 : decode cX11_countOfStreet 54 = .ok (.ireturn, 1) := by decide +kernel
theorem dX11_countOfStreet_55 : decode cX11_countOfStreet 55 = .ok (.aload_n 0, 1) := by decide +kernel
theorem dX11_countOfStreet_56 : decode cX11_countOfStreet 56 = .ok (.getfield 38, 3) := by decide +kernel
theorem dX11_countOfStreet_59 : decode cX11_countOfStreet 59 = .ok (.getfield 116, 3) := by decide +kernel
theorem dX11_countOfStreet_62 : decode cX11_countOfStreet 62 = .ok (.getfield 248, 3) := by decide +kernel
theorem dX11_countOfStreet_65 : decode cX11_countOfStreet 65 = .ok (.ireturn, 1) := by decide +kernel
theorem dX11_countOfStreet_66 : decode cX11_countOfStreet 66 = .ok (.aload_n 0, 1) := by decide +kernel
theorem dX11_countOfStreet_67 : decode cX11_countOfStreet 67 = .ok (.getfield 38, 3) := by decide +kernel
theorem dX11_countOfStreet_70 : decode cX11_countOfStreet 70 = .ok (.getfield 116, 3) := by decide +kernel
theorem dX11_countOfStreet_73 : decode cX11_countOfStreet 73 = .ok (.getfield 251, 3) := by decide +kernel
theorem dX11_countOfStreet_76 : decode cX11_countOfStreet 76 = .ok (.ireturn, 1) := by decide +kernel
theorem dX11_countOfStreet_77 : decode cX11_countOfStreet 77 = .ok (.aload_n 0, 1) := by decide +kernel
theorem dX11_countOfStreet_78 : decode cX11_countOfStreet 78 = .ok (.getfield 38, 3) := by decide +kernel
theorem dX11_countOfStreet_81 : decode cX11_countOfStreet 81 = .ok (.getfield 116, 3) := by decide +kernel
theorem dX11_countOfStreet_84 : decode cX11_countOfStreet 84 = .ok (.getfield 136, 3) := by decide +kernel
theorem dX11_countOfStreet_87 : decode cX11_countOfStreet 87 = .ok (.ireturn, 1) := by decide +kernel
theorem dX11_countOfStreet_88 : decode cX11_countOfStreet 88 = .ok (.aload_n 0, 1) := by decide +kernel
theorem dX11_countOfStreet_89 : decode cX11_countOfStreet 89 = .ok (.getfield 38, 3) := by decide +kernel
theorem dX11_countOfStreet_92 : decode cX11_countOfStreet 92 = .ok (.getfield 116, 3) := by decide +kernel
theorem dX11_countOfStreet_95 : decode cX11_countOfStreet 95 = .ok (.getfield 119, 3) := by decide +kernel
theorem dX11_countOfStreet_98 : decode cX11_countOfStreet 98 = .ok (.ireturn, 1) := by decide +kernel
theorem dX11_countOfStreet_99 : decode cX11_countOfStreet 99 = .ok (.aload_n 0, 1) := by decide +kernel
theorem dX11_countOfStreet_100 : decode cX11_countOfStreet 100 = .ok (.getfield 38, 3) := by decide +kernel
theorem dX11_countOfStreet_103 : decode cX11_countOfStreet 103 = .ok (.getfield 116, 3) := by decide +kernel
theorem dX11_countOfStreet_106 : decode cX11_countOfStreet 106 = .ok (.getfield 139, 3) := by decide +kernel
theorem dX11_countOfStreet_109 : decode cX11_countOfStreet 109 = .ok (.ireturn, 1) := by decide +kernel
theorem dX11_countOfStreet_110 : decode cX11_countOfStreet 110 = .ok (.aload_n 0, 1) := by decide +kernel
theorem dX11_countOfStreet_111 : decode cX11_countOfStreet 111 = .ok (.getfield 38, 3) := by decide +kernel
theorem dX11_countOfStreet_114 : decode cX11_countOfStreet 114 = .ok (.getfield 116, 3) := by decide +kernel
theorem dX11_countOfStreet_117 : decode cX11_countOfStreet 117 = .ok (.getfield 254, 3) := by decide +kernel
theorem dX11_countOfStreet_120 : decode cX11_countOfStreet 120 = .ok (.ifCond .eq 7, 3) := by decide +kernel
theorem dX11_countOfStreet_123 : decode cX11_countOfStreet 123 = .ok (.iconst 1, 1) := by decide +kernel
theorem dX11_countOfStreet_124 : decode cX11_countOfStreet 124 = .ok (.goto 4, 3) := by decide +kernel
theorem dX11_countOfStreet_127 : decode cX11_countOfStreet 127 = .ok (.iconst 0, 1) := by decide +kernel
theorem dX11_countOfStreet_128 : decode cX11_countOfStreet 128 = .ok (.ireturn, 1) := by decide +kernel
theorem dX11_countOfStreet_129 : decode cX11_countOfStreet 129 = .ok (.iconst (-1), 1) := by decide +kernel
theorem dX11_countOfStreet_130 : decode cX11_countOfStreet 130 = .ok (.ireturn, 1) := by decide +kernel
theorem dX11_wetCells_0 : decode cX11_wetCells 0 = .ok (.iconst 0, 1) := by decide +kernel
theorem dX11_wetCells_1 : decode cX11_wetCells 1 = .ok (.istore_n 1, 1) := by decide +kernel
theorem dX11_wetCells_2 : decode cX11_wetCells 2 = .ok (.iconst 0, 1) := by decide +kernel
theorem dX11_wetCells_3 : decode cX11_wetCells 3 = .ok (.istore_n 2, 1) := by decide +kernel
theorem dX11_wetCells_4 : decode cX11_wetCells 4 = .ok (.iload_n 2, 1) := by decide +kernel
theorem dX11_wetCells_5 : decode cX11_wetCells 5 = .ok (.aload_n 0, 1) := by decide +kernel
theorem dX11_wetCells_6 : decode cX11_wetCells 6 = .ok (.getfield 38, 3) := by decide +kernel
theorem dX11_wetCells_9 : decode cX11_wetCells 9 = .ok (.getfield 116, 3) := by decide +kernel
theorem dX11_wetCells_12 : decode cX11_wetCells 12 = .ok (.getfield 119, 3) := by decide +kernel
theorem dX11_wetCells_15 : decode cX11_wetCells 15 = .ok (.if_icmp .ge 50, 3) := by decide +kernel
theorem dX11_wetCells_18 : decode cX11_wetCells 18 = .ok (.aload_n 0, 1) := by decide +kernel
theorem dX11_wetCells_19 : decode cX11_wetCells 19 = .ok (.getfield 38, 3) := by decide +kernel
theorem dX11_wetCells_22 : decode cX11_wetCells 22 = .ok (.getfield 116, 3) := by decide +kernel
theorem dX11_wetCells_25 : decode cX11_wetCells 25 = .ok (.aload_n 0, 1) := by decide +kernel
theorem dX11_wetCells_26 : decode cX11_wetCells 26 = .ok (.getfield 38, 3) := by decide +kernel
theorem dX11_wetCells_29 : decode cX11_wetCells 29 = .ok (.getfield 142, 3) := by decide +kernel
theorem dX11_wetCells_32 : decode cX11_wetCells 32 = .ok (.getfield 152, 3) := by decide +kernel
theorem dX11_wetCells_35 : decode cX11_wetCells 35 = .ok (.iload_n 2, 1) := by decide +kernel
theorem dX11_wetCells_36 : decode cX11_wetCells 36 = .ok (.laload, 1) := by decide +kernel
theorem dX11_wetCells_37 : decode cX11_wetCells 37 = .ok (.aload_n 0, 1) := by decide +kernel
theorem dX11_wetCells_38 : decode cX11_wetCells 38 = .ok (.getfield 38, 3) := by decide +kernel
theorem dX11_wetCells_41 : decode cX11_wetCells 41 = .ok (.getfield 142, 3) := by decide +kernel
theorem dX11_wetCells_44 : decode cX11_wetCells 44 = .ok (.getfield 165, 3) := by decide +kernel
theorem dX11_wetCells_47 : decode cX11_wetCells 47 = .ok (.invokevirtual 175, 3) := by decide +kernel
theorem dX11_wetCells_50 : decode cX11_wetCells 50 = .ok (.ifCond .eq 9, 3) := by decide +kernel
theorem dX11_wetCells_53 : decode cX11_wetCells 53 = .ok (.iload_n 1, 1) := by decide +kernel
theorem dX11_wetCells_54 : decode cX11_wetCells 54 = .ok (.iconst 1, 1) := by decide +kernel
theorem dX11_wetCells_55 : decode cX11_wetCells 55 = .ok (.iload_n 2, 1) := by decide +kernel
theorem dX11_wetCells_56 : decode cX11_wetCells 56 = .ok (.ishl, 1) := by decide +kernel
theorem dX11_wetCells_57 : decode cX11_wetCells 57 = .ok (.ior, 1) := by decide +kernel
theorem dX11_wetCells_58 : decode cX11_wetCells 58 = .ok (.istore_n 1, 1) := by decide +kernel
theorem dX11_wetCells_59 : decode cX11_wetCells 59 = .ok (.iinc 2 1, 3) := by decide +kernel
theorem dX11_wetCells_62 : decode cX11_wetCells 62 = .ok (.goto (-58), 3) := by decide +kernel
theorem dX11_wetCells_65 : decode cX11_wetCells 65 = .ok (.iload_n 1, 1) := by decide +kernel
theorem dX11_wetCells_66 : decode cX11_wetCells 66 = .ok (.ireturn, 1) := by decide +kernel
theorem dX11_hour_0 : decode cX11_hour 0 = .ok (.aload_n 0, 1) := by decide +kernel
theorem dX11_hour_1 : decode cX11_hour 1 = .ok (.getfield 38, 3) := by decide +kernel
theorem dX11_hour_4 : decode cX11_hour 4 = .ok (.getfield 116, 3) := by decide +kernel
theorem dX11_hour_7 : decode cX11_hour 7 = .ok (.getfield 219, 3) := by decide +kernel
theorem dX11_hour_10 : decode cX11_hour 10 = .ok (.ifCond .eq 19, 3) := by decide +kernel
theorem dX11_hour_13 : decode cX11_hour 13 = .ok (.aload_n 0, 1) := by decide +kernel
theorem dX11_hour_14 : decode cX11_hour 14 = .ok (.getfield 38, 3) := by decide +kernel
theorem dX11_hour_17 : decode cX11_hour 17 = .ok (.getfield 142, 3) := by decide +kernel
theorem dX11_hour_20 : decode cX11_hour 20 = .ok (.getfield 165, 3) := by decide +kernel
theorem dX11_hour_23 : decode cX11_hour 23 = .ok (.sipush 999, 3) := by decide +kernel
theorem dX11_hour_26 : decode cX11_hour 26 = .ok (.if_icmp .lt 5, 3) := by decide +kernel
theorem dX11_hour_29 : decode cX11_hour 29 = .ok (.iconst (-1), 1) := by decide +kernel
theorem dX11_hour_30 : decode cX11_hour 30 = .ok (.ireturn, 1) := by decide +kernel
theorem dX11_hour_31 : decode cX11_hour 31 = .ok (.aload_n 0, 1) := by decide +kernel
theorem dX11_hour_32 : decode cX11_hour 32 = .ok (.getfield 38, 3) := by decide +kernel
theorem dX11_hour_35 : decode cX11_hour 35 = .ok (.invokevirtual 257, 3) := by decide +kernel
theorem dX11_hour_38 : decode cX11_hour 38 = .ok (.aload_n 0, 1) := by decide +kernel
theorem dX11_hour_39 : decode cX11_hour 39 = .ok (.getfield 56, 3) := by decide +kernel
theorem dX11_hour_42 : decode cX11_hour 42 = .ok (.aload_n 0, 1) := by decide +kernel
theorem dX11_hour_43 : decode cX11_hour 43 = .ok (.getfield 38, 3) := by decide +kernel
theorem dX11_hour_46 : decode cX11_hour 46 = .ok (.getfield 116, 3) := by decide +kernel
theorem dX11_hour_49 : decode cX11_hour 49 = .ok (.aload_n 0, 1) := by decide +kernel
theorem dX11_hour_50 : decode cX11_hour 50 = .ok (.getfield 38, 3) := by decide +kernel
theorem dX11_hour_53 : decode cX11_hour 53 = .ok (.getfield 142, 3) := by decide +kernel
theorem dX11_hour_56 : decode cX11_hour 56 = .ok (.aload_n 0, 1) := by decide +kernel
theorem dX11_hour_57 : decode cX11_hour 57 = .ok (.aload_n 0, 1) := by decide +kernel
theorem dX11_hour_58 : decode cX11_hour 58 = .ok (.getfield 38, 3) := by decide +kernel
theorem dX11_hour_61 : decode cX11_hour 61 = .ok (.getfield 133, 3) := by decide +kernel
theorem dX11_hour_64 : decode cX11_hour 64 = .ok (.invokevirtual 260, 3) := by decide +kernel
theorem dX11_hour_67 : decode cX11_hour 67 = .ok (.invokevirtual 264, 3) := by decide +kernel
theorem dX11_hour_70 : decode cX11_hour 70 = .ok (.ireturn, 1) := by decide +kernel
theorem dX11_paint_0 : decode cX11_paint 0 = .ok (.aload_n 0, 1) := by decide +kernel
theorem dX11_paint_1 : decode cX11_paint 1 = .ok (.iload_n 1, 1) := by decide +kernel
theorem dX11_paint_2 : decode cX11_paint 2 = .ok (.invokevirtual 149, 3) := by decide +kernel
theorem dX11_paint_5 : decode cX11_paint 5 = .ok (.ifCond .eq 33, 3) := by decide +kernel
theorem dX11_paint_8 : decode cX11_paint 8 = .ok (.aload_n 0, 1) := by decide +kernel
theorem dX11_paint_9 : decode cX11_paint 9 = .ok (.iload_n 2, 1) := by decide +kernel
theorem dX11_paint_10 : decode cX11_paint 10 = .ok (.invokevirtual 183, 3) := by decide +kernel
theorem dX11_paint_13 : decode cX11_paint 13 = .ok (.ifCond .eq 25, 3) := by decide +kernel
theorem dX11_paint_16 : decode cX11_paint 16 = .ok (.aload_n 0, 1) := by decide +kernel
theorem dX11_paint_17 : decode cX11_paint 17 = .ok (.getfield 38, 3) := by decide +kernel
theorem dX11_paint_20 : decode cX11_paint 20 = .ok (.getfield 116, 3) := by decide +kernel
theorem dX11_paint_23 : decode cX11_paint 23 = .ok (.aload_n 0, 1) := by decide +kernel
theorem dX11_paint_24 : decode cX11_paint 24 = .ok (.getfield 38, 3) := by decide +kernel
theorem dX11_paint_27 : decode cX11_paint 27 = .ok (.getfield 142, 3) := by decide +kernel
theorem dX11_paint_30 : decode cX11_paint 30 = .ok (.iload_n 1, 1) := by decide +kernel
theorem dX11_paint_31 : decode cX11_paint 31 = .ok (.iload_n 2, 1) := by decide +kernel
theorem dX11_paint_32 : decode cX11_paint 32 = .ok (.invokevirtual 268, 3) := by decide +kernel
theorem dX11_paint_35 : decode cX11_paint 35 = .ok (.ifCond .ne 5, 3) := by decide +kernel
theorem dX11_paint_38 : decode cX11_paint 38 = .ok (.iconst (-1), 1) := by decide +kernel
theorem dX11_paint_39 : decode cX11_paint 39 = .ok (.ireturn, 1) := by decide +kernel
theorem dX11_paint_40 : decode cX11_paint 40 = .ok (.aload_n 0, 1) := by decide +kernel
theorem dX11_paint_41 : decode cX11_paint 41 = .ok (.getfield 38, 3) := by decide +kernel
theorem dX11_paint_44 : decode cX11_paint 44 = .ok (.invokevirtual 257, 3) := by decide +kernel
theorem dX11_paint_47 : decode cX11_paint 47 = .ok (.aload_n 0, 1) := by decide +kernel
theorem dX11_paint_48 : decode cX11_paint 48 = .ok (.getfield 38, 3) := by decide +kernel
theorem dX11_paint_51 : decode cX11_paint 51 = .ok (.getfield 116, 3) := by decide +kernel
theorem dX11_paint_54 : decode cX11_paint 54 = .ok (.aload_n 0, 1) := by decide +kernel
theorem dX11_paint_55 : decode cX11_paint 55 = .ok (.getfield 38, 3) := by decide +kernel
theorem dX11_paint_58 : decode cX11_paint 58 = .ok (.getfield 142, 3) := by decide +kernel
theorem dX11_paint_61 : decode cX11_paint 61 = .ok (.iload_n 1, 1) := by decide +kernel
theorem dX11_paint_62 : decode cX11_paint 62 = .ok (.iload_n 2, 1) := by decide +kernel
theorem dX11_paint_63 : decode cX11_paint 63 = .ok (.invokevirtual 272, 3) := by decide +kernel
theorem dX11_paint_66 : decode cX11_paint 66 = .ok (.aload_n 0, 1) := by decide +kernel
theorem dX11_paint_67 : decode cX11_paint 67 = .ok (.getfield 38, 3) := by decide +kernel
theorem dX11_paint_70 : decode cX11_paint 70 = .ok (.getfield 142, 3) := by decide +kernel
theorem dX11_paint_73 : decode cX11_paint 73 = .ok (.getfield 152, 3) := by decide +kernel
theorem dX11_paint_76 : decode cX11_paint 76 = .ok (.iload_n 1, 1) := by decide +kernel
theorem dX11_paint_77 : decode cX11_paint 77 = .ok (.laload, 1) := by decide +kernel
theorem dX11_paint_78 : decode cX11_paint 78 = .ok (.invokestatic 159, 3) := by decide +kernel
theorem dX11_paint_81 : decode cX11_paint 81 = .ok (.ireturn, 1) := by decide +kernel
theorem dX11_scrape_0 : decode cX11_scrape 0 = .ok (.aload_n 0, 1) := by decide +kernel
theorem dX11_scrape_1 : decode cX11_scrape 1 = .ok (.iload_n 1, 1) := by decide +kernel
theorem dX11_scrape_2 : decode cX11_scrape 2 = .ok (.invokevirtual 149, 3) := by decide +kernel
theorem dX11_scrape_5 : decode cX11_scrape 5 = .ok (.ifCond .eq 20, 3) := by decide +kernel
theorem dX11_scrape_8 : decode cX11_scrape 8 = .ok (.aload_n 0, 1) := by decide +kernel
theorem dX11_scrape_9 : decode cX11_scrape 9 = .ok (.getfield 38, 3) := by decide +kernel
theorem dX11_scrape_12 : decode cX11_scrape 12 = .ok (.getfield 142, 3) := by decide +kernel
theorem dX11_scrape_15 : decode cX11_scrape 15 = .ok (.getfield 152, 3) := by decide +kernel
theorem dX11_scrape_18 : decode cX11_scrape 18 = .ok (.iload_n 1, 1) := by decide +kernel
theorem dX11_scrape_19 : decode cX11_scrape 19 = .ok (.laload, 1) := by decide +kernel
theorem dX11_scrape_20 : decode cX11_scrape 20 = .ok (.lconst 0, 1) := by decide +kernel
theorem dX11_scrape_21 : decode cX11_scrape 21 = .ok (.lcmp, 1) := by decide +kernel
theorem dX11_scrape_22 : decode cX11_scrape 22 = .ok (.ifCond .ne 5, 3) := by decide +kernel
theorem dX11_scrape_25 : decode cX11_scrape 25 = .ok (.iconst (-1), 1) := by decide +kernel
theorem dX11_scrape_26 : decode cX11_scrape 26 = .ok (.ireturn, 1) := by decide +kernel
theorem dX11_scrape_27 : decode cX11_scrape 27 = .ok (.aload_n 0, 1) := by decide +kernel
theorem dX11_scrape_28 : decode cX11_scrape 28 = .ok (.getfield 38, 3) := by decide +kernel
theorem dX11_scrape_31 : decode cX11_scrape 31 = .ok (.invokevirtual 257, 3) := by decide +kernel
theorem dX11_scrape_34 : decode cX11_scrape 34 = .ok (.aload_n 0, 1) := by decide +kernel
theorem dX11_scrape_35 : decode cX11_scrape 35 = .ok (.getfield 38, 3) := by decide +kernel
theorem dX11_scrape_38 : decode cX11_scrape 38 = .ok (.getfield 142, 3) := by decide +kernel
theorem dX11_scrape_41 : decode cX11_scrape 41 = .ok (.getfield 152, 3) := by decide +kernel
theorem dX11_scrape_44 : decode cX11_scrape 44 = .ok (.iload_n 1, 1) := by decide +kernel
theorem dX11_scrape_45 : decode cX11_scrape 45 = .ok (.laload, 1) := by decide +kernel
theorem dX11_scrape_46 : decode cX11_scrape 46 = .ok (.invokestatic 172, 3) := by decide +kernel
theorem dX11_scrape_49 : decode cX11_scrape 49 = .ok (.istore_n 2, 1) := by decide +kernel
theorem dX11_scrape_50 : decode cX11_scrape 50 = .ok (.aload_n 0, 1) := by decide +kernel
theorem dX11_scrape_51 : decode cX11_scrape 51 = .ok (.getfield 38, 3) := by decide +kernel
theorem dX11_scrape_54 : decode cX11_scrape 54 = .ok (.getfield 142, 3) := by decide +kernel
theorem dX11_scrape_57 : decode cX11_scrape 57 = .ok (.getfield 152, 3) := by decide +kernel
theorem dX11_scrape_60 : decode cX11_scrape 60 = .ok (.iload_n 1, 1) := by decide +kernel
theorem dX11_scrape_61 : decode cX11_scrape 61 = .ok (.aload_n 0, 1) := by decide +kernel
theorem dX11_scrape_62 : decode cX11_scrape 62 = .ok (.getfield 38, 3) := by decide +kernel
theorem dX11_scrape_65 : decode cX11_scrape 65 = .ok (.getfield 142, 3) := by decide +kernel
theorem dX11_scrape_68 : decode cX11_scrape 68 = .ok (.getfield 152, 3) := by decide +kernel
theorem dX11_scrape_71 : decode cX11_scrape 71 = .ok (.iload_n 1, 1) := by decide +kernel
theorem dX11_scrape_72 : decode cX11_scrape 72 = .ok (.laload, 1) := by decide +kernel
theorem dX11_scrape_73 : decode cX11_scrape 73 = .ok (.iconst 1, 1) := by decide +kernel
theorem dX11_scrape_74 : decode cX11_scrape 74 = .ok (.invokestatic 179, 3) := by decide +kernel
theorem dX11_scrape_77 : decode cX11_scrape 77 = .ok (.lastore, 1) := by decide +kernel
theorem dX11_scrape_78 : decode cX11_scrape 78 = .ok (.iload_n 2, 1) := by decide +kernel
theorem dX11_scrape_79 : decode cX11_scrape 79 = .ok (.ireturn, 1) := by decide +kernel
theorem dX11_vote_0 : decode cX11_vote 0 = .ok (.aload_n 0, 1) := by decide +kernel
theorem dX11_vote_1 : decode cX11_vote 1 = .ok (.iload_n 1, 1) := by decide +kernel
theorem dX11_vote_2 : decode cX11_vote 2 = .ok (.invokevirtual 192, 3) := by decide +kernel
theorem dX11_vote_5 : decode cX11_vote 5 = .ok (.ifCond .eq 11, 3) := by decide +kernel
theorem dX11_vote_8 : decode cX11_vote 8 = .ok (.aload_n 0, 1) := by decide +kernel
theorem dX11_vote_9 : decode cX11_vote 9 = .ok (.iload_n 1, 1) := by decide +kernel
theorem dX11_vote_10 : decode cX11_vote 10 = .ok (.invokevirtual 208, 3) := by decide +kernel
theorem dX11_vote_13 : decode cX11_vote 13 = .ok (.ifCond .eq 5, 3) := by decide +kernel
theorem dX11_vote_16 : decode cX11_vote 16 = .ok (.iconst (-1), 1) := by decide +kernel
theorem dX11_vote_17 : decode cX11_vote 17 = .ok (.ireturn, 1) := by decide +kernel
theorem dX11_vote_18 : decode cX11_vote 18 = .ok (.aload_n 0, 1) := by decide +kernel
theorem dX11_vote_19 : decode cX11_vote 19 = .ok (.getfield 38, 3) := by decide +kernel
theorem dX11_vote_22 : decode cX11_vote 22 = .ok (.invokevirtual 257, 3) := by decide +kernel
theorem dX11_vote_25 : decode cX11_vote 25 = .ok (.aload_n 0, 1) := by decide +kernel
theorem dX11_vote_26 : decode cX11_vote 26 = .ok (.getfield 38, 3) := by decide +kernel
theorem dX11_vote_29 : decode cX11_vote 29 = .ok (.getfield 142, 3) := by decide +kernel
theorem dX11_vote_32 : decode cX11_vote 32 = .ok (.dup, 1) := by decide +kernel
theorem dX11_vote_33 : decode cX11_vote 33 = .ok (.getfield 230, 3) := by decide +kernel
theorem dX11_vote_36 : decode cX11_vote 36 = .ok (.iconst 1, 1) := by decide +kernel
theorem dX11_vote_37 : decode cX11_vote 37 = .ok (.iload_n 1, 1) := by decide +kernel
theorem dX11_vote_38 : decode cX11_vote 38 = .ok (.ishl, 1) := by decide +kernel
theorem dX11_vote_39 : decode cX11_vote 39 = .ok (.ior, 1) := by decide +kernel
theorem dX11_vote_40 : decode cX11_vote 40 = .ok (.putfield 230, 3) := by decide +kernel
theorem dX11_vote_43 : decode cX11_vote 43 = .ok (.aload_n 0, 1) := by decide +kernel
theorem dX11_vote_44 : decode cX11_vote 44 = .ok (.getfield 38, 3) := by decide +kernel
theorem dX11_vote_47 : decode cX11_vote 47 = .ok (.getfield 116, 3) := by decide +kernel
theorem dX11_vote_50 : decode cX11_vote 50 = .ok (.aload_n 0, 1) := by decide +kernel
theorem dX11_vote_51 : decode cX11_vote 51 = .ok (.getfield 38, 3) := by decide +kernel
theorem dX11_vote_54 : decode cX11_vote 54 = .ok (.getfield 142, 3) := by decide +kernel
theorem dX11_vote_57 : decode cX11_vote 57 = .ok (.iload_n 1, 1) := by decide +kernel
theorem dX11_vote_58 : decode cX11_vote 58 = .ok (.invokevirtual 276, 3) := by decide +kernel
theorem dX11_vote_61 : decode cX11_vote 61 = .ok (.ireturn, 1) := by decide +kernel
theorem dX11_undo_0 : decode cX11_undo 0 = .ok (.aload_n 0, 1) := by decide +kernel
theorem dX11_undo_1 : decode cX11_undo 1 = .ok (.getfield 38, 3) := by decide +kernel
theorem dX11_undo_4 : decode cX11_undo 4 = .ok (.invokevirtual 279, 3) := by decide +kernel
theorem dX11_undo_7 : decode cX11_undo 7 = .ok (.ifCond .eq 13, 3) := by decide +kernel
theorem dX11_undo_10 : decode cX11_undo 10 = .ok (.aload_n 0, 1) := by decide +kernel
theorem dX11_undo_11 : decode cX11_undo 11 = .ok (.getfield 38, 3) := by decide +kernel
theorem dX11_undo_14 : decode cX11_undo 14 = .ok (.getfield 236, 3) := by decide +kernel
theorem dX11_undo_17 : decode cX11_undo 17 = .ok (.goto 5, 3) := by decide +kernel
theorem dX11_undo_20 : decode cX11_undo 20 = .ok (.bipush (-2), 2) := by decide +kernel
theorem dX11_undo_22 : decode cX11_undo 22 = .ok (.ireturn, 1) := by decide +kernel
theorem dX11_tryHours_0 : decode cX11_tryHours 0 = .ok (.aload_n 0, 1) := by decide +kernel
theorem dX11_tryHours_1 : decode cX11_tryHours 1 = .ok (.getfield 56, 3) := by decide +kernel
theorem dX11_tryHours_4 : decode cX11_tryHours 4 = .ok (.invokevirtual 282, 3) := by decide +kernel
theorem dX11_tryHours_7 : decode cX11_tryHours 7 = .ok (.iconst 0, 1) := by decide +kernel
theorem dX11_tryHours_8 : decode cX11_tryHours 8 = .ok (.istore_n 2, 1) := by decide +kernel
theorem dX11_tryHours_9 : decode cX11_tryHours 9 = .ok (.iload_n 2, 1) := by decide +kernel
theorem dX11_tryHours_10 : decode cX11_tryHours 10 = .ok (.iload_n 1, 1) := by decide +kernel
theorem dX11_tryHours_11 : decode cX11_tryHours 11 = .ok (.if_icmp .ge 39, 3) := by decide +kernel
theorem dX11_tryHours_14 : decode cX11_tryHours 14 = .ok (.aload_n 0, 1) := by decide +kernel
theorem dX11_tryHours_15 : decode cX11_tryHours 15 = .ok (.getfield 56, 3) := by decide +kernel
theorem dX11_tryHours_18 : decode cX11_tryHours 18 = .ok (.aload_n 0, 1) := by decide +kernel
theorem dX11_tryHours_19 : decode cX11_tryHours 19 = .ok (.getfield 38, 3) := by decide +kernel
theorem dX11_tryHours_22 : decode cX11_tryHours 22 = .ok (.getfield 116, 3) := by decide +kernel
theorem dX11_tryHours_25 : decode cX11_tryHours 25 = .ok (.aload_n 0, 1) := by decide +kernel
theorem dX11_tryHours_26 : decode cX11_tryHours 26 = .ok (.getfield 49, 3) := by decide +kernel
theorem dX11_tryHours_29 : decode cX11_tryHours 29 = .ok (.aload_n 0, 1) := by decide +kernel
theorem dX11_tryHours_30 : decode cX11_tryHours 30 = .ok (.aload_n 0, 1) := by decide +kernel
theorem dX11_tryHours_31 : decode cX11_tryHours 31 = .ok (.getfield 38, 3) := by decide +kernel
theorem dX11_tryHours_34 : decode cX11_tryHours 34 = .ok (.getfield 133, 3) := by decide +kernel
theorem dX11_tryHours_37 : decode cX11_tryHours 37 = .ok (.invokevirtual 260, 3) := by decide +kernel
theorem dX11_tryHours_40 : decode cX11_tryHours 40 = .ok (.invokevirtual 264, 3) := by decide +kernel
theorem dX11_tryHours_43 : decode cX11_tryHours 43 = .ok (.pop, 1) := by decide +kernel
theorem dX11_tryHours_44 : decode cX11_tryHours 44 = .ok (.iinc 2 1, 3) := by decide +kernel
theorem dX11_tryHours_47 : decode cX11_tryHours 47 = .ok (.goto (-38), 3) := by decide +kernel
theorem dX11_tryHours_50 : decode cX11_tryHours 50 = .ok (.return_, 1) := by decide +kernel
theorem dX11_ahead_0 : decode cX11_ahead 0 = .ok (.iload_n 2, 1) := by decide +kernel
theorem dX11_ahead_1 : decode cX11_ahead 1 = .ok (.iconst 0, 1) := by decide +kernel
theorem dX11_ahead_2 : decode cX11_ahead 2 = .ok (.bipush 100, 2) := by decide +kernel
theorem dX11_ahead_4 : decode cX11_ahead 4 = .ok (.invokestatic 285, 3) := by decide +kernel
theorem dX11_ahead_7 : decode cX11_ahead 7 = .ok (.ifCond .eq 12, 3) := by decide +kernel
theorem dX11_ahead_10 : decode cX11_ahead 10 = .ok (.aload_n 0, 1) := by decide +kernel
theorem dX11_ahead_11 : decode cX11_ahead 11 = .ok (.iload_n 1, 1) := by decide +kernel
theorem dX11_ahead_12 : decode cX11_ahead 12 = .ok (.iload_n 3, 1) := by decide +kernel
theorem dX11_ahead_13 : decode cX11_ahead 13 = .ok (.invokevirtual 289, 3) := by decide +kernel
theorem dX11_ahead_16 : decode cX11_ahead 16 = .ok (.ifCond .ne 6, 3) := by decide +kernel
theorem dX11_ahead_19 : decode cX11_ahead 19 = .ok (.bipush (-2), 2) := by decide +kernel
theorem dX11_ahead_21 : decode cX11_ahead 21 = .ok (.ireturn, 1) := by decide +kernel
theorem dX11_ahead_22 : decode cX11_ahead 22 = .ok (.aload_n 0, 1) := by decide +kernel
theorem dX11_ahead_23 : decode cX11_ahead 23 = .ok (.getfield 49, 3) := by decide +kernel
theorem dX11_ahead_26 : decode cX11_ahead 26 = .ok (.aload_n 0, 1) := by decide +kernel
theorem dX11_ahead_27 : decode cX11_ahead 27 = .ok (.getfield 38, 3) := by decide +kernel
theorem dX11_ahead_30 : decode cX11_ahead 30 = .ok (.getfield 142, 3) := by decide +kernel
theorem dX11_ahead_33 : decode cX11_ahead 33 = .ok (.invokevirtual 293, 3) := by decide +kernel
theorem dX11_ahead_36 : decode cX11_ahead 36 = .ok (.aload_n 0, 1) := by decide +kernel
theorem dX11_ahead_37 : decode cX11_ahead 37 = .ok (.iload_n 2, 1) := by decide +kernel
theorem dX11_ahead_38 : decode cX11_ahead 38 = .ok (.invokevirtual 297, 3) := by decide +kernel
theorem dX11_ahead_41 : decode cX11_ahead 41 = .ok (.iload_n 3, 1) := by decide +kernel
theorem dX11_ahead_42 : decode cX11_ahead 42 = .ok (.ifCond .ne 19, 3) := by decide +kernel
theorem dX11_ahead_45 : decode cX11_ahead 45 = .ok (.aload_n 0, 1) := by decide +kernel
theorem dX11_ahead_46 : decode cX11_ahead 46 = .ok (.getfield 38, 3) := by decide +kernel
theorem dX11_ahead_49 : decode cX11_ahead 49 = .ok (.getfield 116, 3) := by decide +kernel
theorem dX11_ahead_52 : decode cX11_ahead 52 = .ok (.aload_n 0, 1) := by decide +kernel
theorem dX11_ahead_53 : decode cX11_ahead 53 = .ok (.getfield 49, 3) := by decide +kernel
theorem dX11_ahead_56 : decode cX11_ahead 56 = .ok (.iload_n 1, 1) := by decide +kernel
theorem dX11_ahead_57 : decode cX11_ahead 57 = .ok (.invokevirtual 204, 3) := by decide +kernel
theorem dX11_ahead_60 : decode cX11_ahead 60 = .ok (.ireturn, 1) := by decide +kernel
theorem dX11_ahead_61 : decode cX11_ahead 61 = .ok (.iload_n 3, 1) := by decide +kernel
theorem dX11_ahead_62 : decode cX11_ahead 62 = .ok (.iconst 1, 1) := by decide +kernel
theorem dX11_ahead_63 : decode cX11_ahead 63 = .ok (.if_icmp .ne 15, 3) := by decide +kernel
theorem dX11_ahead_66 : decode cX11_ahead 66 = .ok (.aload_n 0, 1) := by decide +kernel
theorem dX11_ahead_67 : decode cX11_ahead 67 = .ok (.getfield 49, 3) := by decide +kernel
theorem dX11_ahead_70 : decode cX11_ahead 70 = .ok (.getfield 209, 3) := by decide +kernel
theorem dX11_ahead_73 : decode cX11_ahead 73 = .ok (.iload_n 1, 1) := by decide +kernel
theorem dX11_ahead_74 : decode cX11_ahead 74 = .ok (.iaload, 1) := by decide +kernel
theorem dX11_ahead_75 : decode cX11_ahead 75 = .ok (.goto 29, 3) := by decide +kernel
theorem dX11_ahead_78 : decode cX11_ahead 78 = .ok (.aload_n 0, 1) := by decide +kernel
theorem dX11_ahead_79 : decode cX11_ahead 79 = .ok (.getfield 38, 3) := by decide +kernel
theorem dX11_ahead_82 : decode cX11_ahead 82 = .ok (.getfield 116, 3) := by decide +kernel
theorem dX11_ahead_85 : decode cX11_ahead 85 = .ok (.aload_n 0, 1) := by decide +kernel
theorem dX11_ahead_86 : decode cX11_ahead 86 = .ok (.getfield 49, 3) := by decide +kernel
theorem dX11_ahead_89 : decode cX11_ahead 89 = .ok (.getfield 152, 3) := by decide +kernel
theorem dX11_ahead_92 : decode cX11_ahead 92 = .ok (.iload_n 1, 1) := by decide +kernel
theorem dX11_ahead_93 : decode cX11_ahead 93 = .ok (.laload, 1) := by decide +kernel
theorem dX11_ahead_94 : decode cX11_ahead 94 = .ok (.aload_n 0, 1) := by decide +kernel
theorem dX11_ahead_95 : decode cX11_ahead 95 = .ok (.getfield 49, 3) := by decide +kernel
theorem dX11_ahead_98 : decode cX11_ahead 98 = .ok (.getfield 165, 3) := by decide +kernel
theorem dX11_ahead_101 : decode cX11_ahead 101 = .ok (.invokevirtual 168, 3) := by decide +kernel
theorem dX11_ahead_104 : decode cX11_ahead 104 = .ok (.ireturn, 1) := by decide +kernel
theorem dX11_isThereFor_0 : decode cX11_isThereFor 0 = .ok (.iload_n 2, 1) := by decide +kernel
theorem dX11_isThereFor_1 : decode cX11_isThereFor 1 = .ok (.tableswitch 45 0 2 #[27, 33, 39], 27) := by decide +kernel
theorem dX11_isThereFor_28 : decode cX11_isThereFor 28 = .ok (.aload_n 0, 1) := by decide +kernel
theorem dX11_isThereFor_29 : decode cX11_isThereFor 29 = .ok (.iload_n 1, 1) := by decide +kernel
theorem dX11_isThereFor_30 : decode cX11_isThereFor 30 = .ok (.invokevirtual 192, 3) := by decide +kernel
theorem dX11_isThereFor_33 : decode cX11_isThereFor 33 = .ok (.ireturn, 1) := by decide +kernel
theorem dX11_isThereFor_34 : decode cX11_isThereFor 34 = .ok (.aload_n 0, 1) := by decide +kernel
theorem dX11_isThereFor_35 : decode cX11_isThereFor 35 = .ok (.iload_n 1, 1) := by decide +kernel
theorem dX11_isThereFor_36 : decode cX11_isThereFor 36 = .ok (.invokevirtual 183, 3) := by decide +kernel
theorem dX11_isThereFor_39 : decode cX11_isThereFor 39 = .ok (.ireturn, 1) := by decide +kernel
theorem dX11_isThereFor_40 : decode cX11_isThereFor 40 = .ok (.aload_n 0, 1) := by decide +kernel
theorem dX11_isThereFor_41 : decode cX11_isThereFor 41 = .ok (.iload_n 1, 1) := by decide +kernel
theorem dX11_isThereFor_42 : decode cX11_isThereFor 42 = .ok (.invokevirtual 149, 3) := by decide +kernel
theorem dX11_isThereFor_45 : decode cX11_isThereFor 45 = .ok (.ireturn, 1) := by decide +kernel
theorem dX11_isThereFor_46 : decode cX11_isThereFor 46 = .ok (.iconst 0, 1) := by decide +kernel
theorem dX11_isThereFor_47 : decode cX11_isThereFor 47 = .ok (.ireturn, 1) := by decide +kernel
theorem dX11_rents_0 : decode cX11_rents 0 = .ok (.aload_n 0, 1) := by decide +kernel
theorem dX11_rents_1 : decode cX11_rents 1 = .ok (.iload_n 1, 1) := by decide +kernel
theorem dX11_rents_2 : decode cX11_rents 2 = .ok (.invokevirtual 183, 3) := by decide +kernel
theorem dX11_rents_5 : decode cX11_rents 5 = .ok (.ifCond .eq 13, 3) := by decide +kernel
theorem dX11_rents_8 : decode cX11_rents 8 = .ok (.iload_n 2, 1) := by decide +kernel
theorem dX11_rents_9 : decode cX11_rents 9 = .ok (.iconst 1, 1) := by decide +kernel
theorem dX11_rents_10 : decode cX11_rents 10 = .ok (.bipush 100, 2) := by decide +kernel
theorem dX11_rents_12 : decode cX11_rents 12 = .ok (.invokestatic 285, 3) := by decide +kernel
theorem dX11_rents_15 : decode cX11_rents 15 = .ok (.ifCond .ne 5, 3) := by decide +kernel
theorem dX11_rents_18 : decode cX11_rents 18 = .ok (.iconst (-1), 1) := by decide +kernel
theorem dX11_rents_19 : decode cX11_rents 19 = .ok (.ireturn, 1) := by decide +kernel
theorem dX11_rents_20 : decode cX11_rents 20 = .ok (.aload_n 0, 1) := by decide +kernel
theorem dX11_rents_21 : decode cX11_rents 21 = .ok (.getfield 49, 3) := by decide +kernel
theorem dX11_rents_24 : decode cX11_rents 24 = .ok (.aload_n 0, 1) := by decide +kernel
theorem dX11_rents_25 : decode cX11_rents 25 = .ok (.getfield 38, 3) := by decide +kernel
theorem dX11_rents_28 : decode cX11_rents 28 = .ok (.getfield 142, 3) := by decide +kernel
theorem dX11_rents_31 : decode cX11_rents 31 = .ok (.invokevirtual 293, 3) := by decide +kernel
theorem dX11_rents_34 : decode cX11_rents 34 = .ok (.aload_n 0, 1) := by decide +kernel
theorem dX11_rents_35 : decode cX11_rents 35 = .ok (.iload_n 2, 1) := by decide +kernel
theorem dX11_rents_36 : decode cX11_rents 36 = .ok (.invokevirtual 297, 3) := by decide +kernel
theorem dX11_rents_39 : decode cX11_rents 39 = .ok (.aload_n 0, 1) := by decide +kernel
theorem dX11_rents_40 : decode cX11_rents 40 = .ok (.getfield 56, 3) := by decide +kernel
theorem dX11_rents_43 : decode cX11_rents 43 = .ok (.getfield 300, 3) := by decide +kernel
theorem dX11_rents_46 : decode cX11_rents 46 = .ok (.iload_n 1, 1) := by decide +kernel
theorem dX11_rents_47 : decode cX11_rents 47 = .ok (.iaload, 1) := by decide +kernel
theorem dX11_rents_48 : decode cX11_rents 48 = .ok (.ireturn, 1) := by decide +kernel
theorem dX11_worth_0 : decode cX11_worth 0 = .ok (.aload_n 0, 1) := by decide +kernel
theorem dX11_worth_1 : decode cX11_worth 1 = .ok (.iload_n 1, 1) := by decide +kernel
theorem dX11_worth_2 : decode cX11_worth 2 = .ok (.invokevirtual 149, 3) := by decide +kernel
theorem dX11_worth_5 : decode cX11_worth 5 = .ok (.ifCond .eq 22, 3) := by decide +kernel
theorem dX11_worth_8 : decode cX11_worth 8 = .ok (.aload_n 0, 1) := by decide +kernel
theorem dX11_worth_9 : decode cX11_worth 9 = .ok (.aload_n 0, 1) := by decide +kernel
theorem dX11_worth_10 : decode cX11_worth 10 = .ok (.getfield 38, 3) := by decide +kernel
theorem dX11_worth_13 : decode cX11_worth 13 = .ok (.getfield 116, 3) := by decide +kernel
theorem dX11_worth_16 : decode cX11_worth 16 = .ok (.getfield 156, 3) := by decide +kernel
theorem dX11_worth_19 : decode cX11_worth 19 = .ok (.iload_n 1, 1) := by decide +kernel
theorem dX11_worth_20 : decode cX11_worth 20 = .ok (.iaload, 1) := by decide +kernel
theorem dX11_worth_21 : decode cX11_worth 21 = .ok (.invokevirtual 208, 3) := by decide +kernel
theorem dX11_worth_24 : decode cX11_worth 24 = .ok (.ifCond .eq 7, 3) := by decide +kernel
theorem dX11_worth_27 : decode cX11_worth 27 = .ok (.ldc_w 303, 3) := by decide +kernel
theorem dX11_worth_30 : decode cX11_worth 30 = .ok (.ireturn, 1) := by decide +kernel
theorem dX11_worth_31 : decode cX11_worth 31 = .ok (.aload_n 0, 1) := by decide +kernel
theorem dX11_worth_32 : decode cX11_worth 32 = .ok (.iload_n 2, 1) := by decide +kernel
theorem dX11_worth_33 : decode cX11_worth 33 = .ok (.invokevirtual 183, 3) := by decide +kernel
theorem dX11_worth_36 : decode cX11_worth 36 = .ok (.ifCond .eq 13, 3) := by decide +kernel
theorem dX11_worth_39 : decode cX11_worth 39 = .ok (.iload_n 3, 1) := by decide +kernel
theorem dX11_worth_40 : decode cX11_worth 40 = .ok (.iconst 1, 1) := by decide +kernel
theorem dX11_worth_41 : decode cX11_worth 41 = .ok (.bipush 100, 2) := by decide +kernel
theorem dX11_worth_43 : decode cX11_worth 43 = .ok (.invokestatic 285, 3) := by decide +kernel
theorem dX11_worth_46 : decode cX11_worth 46 = .ok (.ifCond .ne 7, 3) := by decide +kernel
theorem dX11_worth_49 : decode cX11_worth 49 = .ok (.ldc_w 303, 3) := by decide +kernel
theorem dX11_worth_52 : decode cX11_worth 52 = .ok (.ireturn, 1) := by decide +kernel
theorem dX11_worth_53 : decode cX11_worth 53 = .ok (.aload_n 0, 1) := by decide +kernel
theorem dX11_worth_54 : decode cX11_worth 54 = .ok (.getfield 49, 3) := by decide +kernel
theorem dX11_worth_57 : decode cX11_worth 57 = .ok (.aload_n 0, 1) := by decide +kernel
theorem dX11_worth_58 : decode cX11_worth 58 = .ok (.getfield 38, 3) := by decide +kernel
theorem dX11_worth_61 : decode cX11_worth 61 = .ok (.getfield 142, 3) := by decide +kernel
theorem dX11_worth_64 : decode cX11_worth 64 = .ok (.invokevirtual 293, 3) := by decide +kernel
theorem dX11_worth_67 : decode cX11_worth 67 = .ok (.aload_n 0, 1) := by decide +kernel
theorem dX11_worth_68 : decode cX11_worth 68 = .ok (.iload_n 3, 1) := by decide +kernel
theorem dX11_worth_69 : decode cX11_worth 69 = .ok (.invokevirtual 297, 3) := by decide +kernel
theorem dX11_worth_72 : decode cX11_worth 72 = .ok (.aload_n 0, 1) := by decide +kernel
theorem dX11_worth_73 : decode cX11_worth 73 = .ok (.getfield 56, 3) := by decide +kernel
theorem dX11_worth_76 : decode cX11_worth 76 = .ok (.getfield 300, 3) := by decide +kernel
theorem dX11_worth_79 : decode cX11_worth 79 = .ok (.iload_n 2, 1) := by decide +kernel
theorem dX11_worth_80 : decode cX11_worth 80 = .ok (.iaload, 1) := by decide +kernel
theorem dX11_worth_81 : decode cX11_worth 81 = .ok (.istore 4, 2) := by decide +kernel
theorem dX11_worth_83 : decode cX11_worth 83 = .ok (.aload_n 0, 1) := by decide +kernel
theorem dX11_worth_84 : decode cX11_worth 84 = .ok (.getfield 49, 3) := by decide +kernel
theorem dX11_worth_87 : decode cX11_worth 87 = .ok (.aload_n 0, 1) := by decide +kernel
theorem dX11_worth_88 : decode cX11_worth 88 = .ok (.getfield 38, 3) := by decide +kernel
theorem dX11_worth_91 : decode cX11_worth 91 = .ok (.getfield 142, 3) := by decide +kernel
theorem dX11_worth_94 : decode cX11_worth 94 = .ok (.invokevirtual 293, 3) := by decide +kernel
theorem dX11_worth_97 : decode cX11_worth 97 = .ok (.aload_n 0, 1) := by decide +kernel
theorem dX11_worth_98 : decode cX11_worth 98 = .ok (.getfield 49, 3) := by decide +kernel
theorem dX11_worth_101 : decode cX11_worth 101 = .ok (.getfield 152, 3) := by decide +kernel
theorem dX11_worth_104 : decode cX11_worth 104 = .ok (.iload_n 1, 1) := by decide +kernel
theorem dX11_worth_105 : decode cX11_worth 105 = .ok (.aload_n 0, 1) := by decide +kernel
theorem dX11_worth_106 : decode cX11_worth 106 = .ok (.getfield 49, 3) := by decide +kernel
theorem dX11_worth_109 : decode cX11_worth 109 = .ok (.getfield 152, 3) := by decide +kernel
theorem dX11_worth_112 : decode cX11_worth 112 = .ok (.iload_n 1, 1) := by decide +kernel
theorem dX11_worth_113 : decode cX11_worth 113 = .ok (.laload, 1) := by decide +kernel
theorem dX11_worth_114 : decode cX11_worth 114 = .ok (.iload_n 2, 1) := by decide +kernel
theorem dX11_worth_115 : decode cX11_worth 115 = .ok (.aload_n 0, 1) := by decide +kernel
theorem dX11_worth_116 : decode cX11_worth 116 = .ok (.getfield 49, 3) := by decide +kernel
theorem dX11_worth_119 : decode cX11_worth 119 = .ok (.getfield 165, 3) := by decide +kernel
theorem dX11_worth_122 : decode cX11_worth 122 = .ok (.invokestatic 304, 3) := by decide +kernel
theorem dX11_worth_125 : decode cX11_worth 125 = .ok (.lastore, 1) := by decide +kernel
theorem dX11_worth_126 : decode cX11_worth 126 = .ok (.aload_n 0, 1) := by decide +kernel
theorem dX11_worth_127 : decode cX11_worth 127 = .ok (.iload_n 3, 1) := by decide +kernel
theorem dX11_worth_128 : decode cX11_worth 128 = .ok (.invokevirtual 297, 3) := by decide +kernel
theorem dX11_worth_131 : decode cX11_worth 131 = .ok (.aload_n 0, 1) := by decide +kernel
theorem dX11_worth_132 : decode cX11_worth 132 = .ok (.getfield 56, 3) := by decide +kernel
theorem dX11_worth_135 : decode cX11_worth 135 = .ok (.getfield 300, 3) := by decide +kernel
theorem dX11_worth_138 : decode cX11_worth 138 = .ok (.iload_n 2, 1) := by decide +kernel
theorem dX11_worth_139 : decode cX11_worth 139 = .ok (.iaload, 1) := by decide +kernel
theorem dX11_worth_140 : decode cX11_worth 140 = .ok (.iload 4, 2) := by decide +kernel
theorem dX11_worth_142 : decode cX11_worth 142 = .ok (.isub, 1) := by decide +kernel
theorem dX11_worth_143 : decode cX11_worth 143 = .ok (.ireturn, 1) := by decide +kernel
theorem dX11_one_0 : decode cX11_one 0 = .ok (.aload_n 0, 1) := by decide +kernel
theorem dX11_one_1 : decode cX11_one 1 = .ok (.getfield 38, 3) := by decide +kernel
theorem dX11_one_4 : decode cX11_one 4 = .ok (.getfield 116, 3) := by decide +kernel
theorem dX11_one_7 : decode cX11_one 7 = .ok (.getfield 219, 3) := by decide +kernel
theorem dX11_one_10 : decode cX11_one 10 = .ok (.ifCond .ne 5, 3) := by decide +kernel
theorem dX11_one_13 : decode cX11_one 13 = .ok (.iconst (-1), 1) := by decide +kernel
theorem dX11_one_14 : decode cX11_one 14 = .ok (.ireturn, 1) := by decide +kernel
theorem dX11_one_15 : decode cX11_one 15 = .ok (.aload_n 0, 1) := by decide +kernel
theorem dX11_one_16 : decode cX11_one 16 = .ok (.getfield 49, 3) := by decide +kernel
theorem dX11_one_19 : decode cX11_one 19 = .ok (.aload_n 0, 1) := by decide +kernel
theorem dX11_one_20 : decode cX11_one 20 = .ok (.getfield 38, 3) := by decide +kernel
theorem dX11_one_23 : decode cX11_one 23 = .ok (.getfield 142, 3) := by decide +kernel
theorem dX11_one_26 : decode cX11_one 26 = .ok (.invokevirtual 293, 3) := by decide +kernel
theorem dX11_one_29 : decode cX11_one 29 = .ok (.iconst 0, 1) := by decide +kernel
theorem dX11_one_30 : decode cX11_one 30 = .ok (.istore_n 1, 1) := by decide +kernel
theorem dX11_one_31 : decode cX11_one 31 = .ok (.iload_n 1, 1) := by decide +kernel
theorem dX11_one_32 : decode cX11_one 32 = .ok (.bipush 100, 2) := by decide +kernel
theorem dX11_one_34 : decode cX11_one 34 = .ok (.if_icmp .ge 69, 3) := by decide +kernel
theorem dX11_one_37 : decode cX11_one 37 = .ok (.aload_n 0, 1) := by decide +kernel
theorem dX11_one_38 : decode cX11_one 38 = .ok (.getfield 38, 3) := by decide +kernel
theorem dX11_one_41 : decode cX11_one 41 = .ok (.getfield 116, 3) := by decide +kernel
theorem dX11_one_44 : decode cX11_one 44 = .ok (.aload_n 0, 1) := by decide +kernel
theorem dX11_one_45 : decode cX11_one 45 = .ok (.getfield 49, 3) := by decide +kernel
theorem dX11_one_48 : decode cX11_one 48 = .ok (.invokevirtual 308, 3) := by decide +kernel
theorem dX11_one_51 : decode cX11_one 51 = .ok (.ifCond .eq 16, 3) := by decide +kernel
theorem dX11_one_54 : decode cX11_one 54 = .ok (.aload_n 0, 1) := by decide +kernel
theorem dX11_one_55 : decode cX11_one 55 = .ok (.getfield 38, 3) := by decide +kernel
theorem dX11_one_58 : decode cX11_one 58 = .ok (.getfield 142, 3) := by decide +kernel
theorem dX11_one_61 : decode cX11_one 61 = .ok (.getfield 165, 3) := by decide +kernel
theorem dX11_one_64 : decode cX11_one 64 = .ok (.iload_n 1, 1) := by decide +kernel
theorem dX11_one_65 : decode cX11_one 65 = .ok (.iadd, 1) := by decide +kernel
theorem dX11_one_66 : decode cX11_one 66 = .ok (.ireturn, 1) := by decide +kernel
theorem dX11_one_67 : decode cX11_one 67 = .ok (.aload_n 0, 1) := by decide +kernel
theorem dX11_one_68 : decode cX11_one 68 = .ok (.getfield 56, 3) := by decide +kernel
theorem dX11_one_71 : decode cX11_one 71 = .ok (.aload_n 0, 1) := by decide +kernel
theorem dX11_one_72 : decode cX11_one 72 = .ok (.getfield 38, 3) := by decide +kernel
theorem dX11_one_75 : decode cX11_one 75 = .ok (.getfield 116, 3) := by decide +kernel
theorem dX11_one_78 : decode cX11_one 78 = .ok (.aload_n 0, 1) := by decide +kernel
theorem dX11_one_79 : decode cX11_one 79 = .ok (.getfield 49, 3) := by decide +kernel
theorem dX11_one_82 : decode cX11_one 82 = .ok (.aload_n 0, 1) := by decide +kernel
theorem dX11_one_83 : decode cX11_one 83 = .ok (.aload_n 0, 1) := by decide +kernel
theorem dX11_one_84 : decode cX11_one 84 = .ok (.getfield 38, 3) := by decide +kernel
theorem dX11_one_87 : decode cX11_one 87 = .ok (.getfield 133, 3) := by decide +kernel
theorem dX11_one_90 : decode cX11_one 90 = .ok (.invokevirtual 260, 3) := by decide +kernel
theorem dX11_one_93 : decode cX11_one 93 = .ok (.invokevirtual 264, 3) := by decide +kernel
theorem dX11_one_96 : decode cX11_one 96 = .ok (.pop, 1) := by decide +kernel
theorem dX11_one_97 : decode cX11_one 97 = .ok (.iinc 1 1, 3) := by decide +kernel
theorem dX11_one_100 : decode cX11_one 100 = .ok (.goto (-69), 3) := by decide +kernel
theorem dX11_one_103 : decode cX11_one 103 = .ok (.bipush (-2), 2) := by decide +kernel
theorem dX11_one_105 : decode cX11_one 105 = .ok (.ireturn, 1) := by decide +kernel
theorem dX11_when_0 : decode cX11_when 0 = .ok (.aload_n 0, 1) := by decide +kernel
theorem dX11_when_1 : decode cX11_when 1 = .ok (.getfield 38, 3) := by decide +kernel
theorem dX11_when_4 : decode cX11_when 4 = .ok (.getfield 116, 3) := by decide +kernel
theorem dX11_when_7 : decode cX11_when 7 = .ok (.getfield 219, 3) := by decide +kernel
theorem dX11_when_10 : decode cX11_when 10 = .ok (.ifCond .ne 5, 3) := by decide +kernel
theorem dX11_when_13 : decode cX11_when 13 = .ok (.iconst (-1), 1) := by decide +kernel
theorem dX11_when_14 : decode cX11_when 14 = .ok (.ireturn, 1) := by decide +kernel
theorem dX11_when_15 : decode cX11_when 15 = .ok (.iconst 0, 1) := by decide +kernel
theorem dX11_when_16 : decode cX11_when 16 = .ok (.istore_n 1, 1) := by decide +kernel
theorem dX11_when_17 : decode cX11_when 17 = .ok (.iload_n 1, 1) := by decide +kernel
theorem dX11_when_18 : decode cX11_when 18 = .ok (.bipush 60, 2) := by decide +kernel
theorem dX11_when_20 : decode cX11_when 20 = .ok (.if_icmp .ge 47, 3) := by decide +kernel
theorem dX11_when_23 : decode cX11_when 23 = .ok (.aload_n 0, 1) := by decide +kernel
theorem dX11_when_24 : decode cX11_when 24 = .ok (.getfield 38, 3) := by decide +kernel
theorem dX11_when_27 : decode cX11_when 27 = .ok (.getfield 116, 3) := by decide +kernel
theorem dX11_when_30 : decode cX11_when 30 = .ok (.aload_n 0, 1) := by decide +kernel
theorem dX11_when_31 : decode cX11_when 31 = .ok (.getfield 38, 3) := by decide +kernel
theorem dX11_when_34 : decode cX11_when 34 = .ok (.getfield 142, 3) := by decide +kernel
theorem dX11_when_37 : decode cX11_when 37 = .ok (.getfield 165, 3) := by decide +kernel
theorem dX11_when_40 : decode cX11_when 40 = .ok (.iload_n 1, 1) := by decide +kernel
theorem dX11_when_41 : decode cX11_when 41 = .ok (.iadd, 1) := by decide +kernel
theorem dX11_when_42 : decode cX11_when 42 = .ok (.invokevirtual 312, 3) := by decide +kernel
theorem dX11_when_45 : decode cX11_when 45 = .ok (.ifCond .eq 16, 3) := by decide +kernel
theorem dX11_when_48 : decode cX11_when 48 = .ok (.aload_n 0, 1) := by decide +kernel
theorem dX11_when_49 : decode cX11_when 49 = .ok (.getfield 38, 3) := by decide +kernel
theorem dX11_when_52 : decode cX11_when 52 = .ok (.getfield 142, 3) := by decide +kernel
theorem dX11_when_55 : decode cX11_when 55 = .ok (.getfield 165, 3) := by decide +kernel
theorem dX11_when_58 : decode cX11_when 58 = .ok (.iload_n 1, 1) := by decide +kernel
theorem dX11_when_59 : decode cX11_when 59 = .ok (.iadd, 1) := by decide +kernel
theorem dX11_when_60 : decode cX11_when 60 = .ok (.ireturn, 1) := by decide +kernel
theorem dX11_when_61 : decode cX11_when 61 = .ok (.iinc 1 1, 3) := by decide +kernel
theorem dX11_when_64 : decode cX11_when 64 = .ok (.goto (-47), 3) := by decide +kernel
theorem dX11_when_67 : decode cX11_when 67 = .ok (.bipush (-2), 2) := by decide +kernel
theorem dX11_when_69 : decode cX11_when 69 = .ok (.ireturn, 1) := by decide +kernel
theorem dX11_least_0 : decode cX11_least 0 = .ok (.aload_n 0, 1) := by decide +kernel
theorem dX11_least_1 : decode cX11_least 1 = .ok (.iload_n 1, 1) := by decide +kernel
theorem dX11_least_2 : decode cX11_least 2 = .ok (.invokevirtual 183, 3) := by decide +kernel
theorem dX11_least_5 : decode cX11_least 5 = .ok (.ifCond .eq 19, 3) := by decide +kernel
theorem dX11_least_8 : decode cX11_least 8 = .ok (.aload_n 0, 1) := by decide +kernel
theorem dX11_least_9 : decode cX11_least 9 = .ok (.iload_n 2, 1) := by decide +kernel
theorem dX11_least_10 : decode cX11_least 10 = .ok (.invokevirtual 192, 3) := by decide +kernel
theorem dX11_least_13 : decode cX11_least 13 = .ok (.ifCond .eq 11, 3) := by decide +kernel
theorem dX11_least_16 : decode cX11_least 16 = .ok (.aload_n 0, 1) := by decide +kernel
theorem dX11_least_17 : decode cX11_least 17 = .ok (.iload_n 2, 1) := by decide +kernel
theorem dX11_least_18 : decode cX11_least 18 = .ok (.invokevirtual 208, 3) := by decide +kernel
theorem dX11_least_21 : decode cX11_least 21 = .ok (.ifCond .eq 5, 3) := by decide +kernel
theorem dX11_least_24 : decode cX11_least 24 = .ok (.iconst (-1), 1) := by decide +kernel
theorem dX11_least_25 : decode cX11_least 25 = .ok (.ireturn, 1) := by decide +kernel
theorem dX11_least_26 : decode cX11_least 26 = .ok (.iload_n 3, 1) := by decide +kernel
theorem dX11_least_27 : decode cX11_least 27 = .ok (.iconst 0, 1) := by decide +kernel
theorem dX11_least_28 : decode cX11_least 28 = .ok (.bipush 60, 2) := by decide +kernel
theorem dX11_least_30 : decode cX11_least 30 = .ok (.invokestatic 285, 3) := by decide +kernel
theorem dX11_least_33 : decode cX11_least 33 = .ok (.ifCond .eq 13, 3) := by decide +kernel
theorem dX11_least_36 : decode cX11_least 36 = .ok (.iload 4, 2) := by decide +kernel
theorem dX11_least_38 : decode cX11_least 38 = .ok (.iconst 0, 1) := by decide +kernel
theorem dX11_least_39 : decode cX11_least 39 = .ok (.iconst 1, 1) := by decide +kernel
theorem dX11_least_40 : decode cX11_least 40 = .ok (.invokestatic 285, 3) := by decide +kernel
theorem dX11_least_43 : decode cX11_least 43 = .ok (.ifCond .ne 5, 3) := by decide +kernel
theorem dX11_least_46 : decode cX11_least 46 = .ok (.iconst (-1), 1) := by decide +kernel
theorem dX11_least_47 : decode cX11_least 47 = .ok (.ireturn, 1) := by decide +kernel
theorem dX11_least_48 : decode cX11_least 48 = .ok (.aload_n 0, 1) := by decide +kernel
theorem dX11_least_49 : decode cX11_least 49 = .ok (.iload_n 1, 1) := by decide +kernel
theorem dX11_least_50 : decode cX11_least 50 = .ok (.iload_n 2, 1) := by decide +kernel
theorem dX11_least_51 : decode cX11_least 51 = .ok (.iload_n 3, 1) := by decide +kernel
theorem dX11_least_52 : decode cX11_least 52 = .ok (.invokevirtual 315, 3) := by decide +kernel
theorem dX11_least_55 : decode cX11_least 55 = .ok (.aload_n 0, 1) := by decide +kernel
theorem dX11_least_56 : decode cX11_least 56 = .ok (.iload_n 1, 1) := by decide +kernel
theorem dX11_least_57 : decode cX11_least 57 = .ok (.iload_n 2, 1) := by decide +kernel
theorem dX11_least_58 : decode cX11_least 58 = .ok (.invokevirtual 319, 3) := by decide +kernel
theorem dX11_least_61 : decode cX11_least 61 = .ok (.istore 5, 2) := by decide +kernel
theorem dX11_least_63 : decode cX11_least 63 = .ok (.iload 5, 2) := by decide +kernel
theorem dX11_least_65 : decode cX11_least 65 = .ok (.iconst (-1), 1) := by decide +kernel
theorem dX11_least_66 : decode cX11_least 66 = .ok (.if_icmp .ne 6, 3) := by decide +kernel
theorem dX11_least_69 : decode cX11_least 69 = .ok (.bipush (-2), 2) := by decide +kernel
theorem dX11_least_71 : decode cX11_least 71 = .ok (.ireturn, 1) := by decide +kernel
theorem dX11_least_72 : decode cX11_least 72 = .ok (.iload 4, 2) := by decide +kernel
theorem dX11_least_74 : decode cX11_least 74 = .ok (.ifCond .ne 11, 3) := by decide +kernel
theorem dX11_least_77 : decode cX11_least 77 = .ok (.iload 5, 2) := by decide +kernel
theorem dX11_least_79 : decode cX11_least 79 = .ok (.invokestatic 323, 3) := by decide +kernel
theorem dX11_least_82 : decode cX11_least 82 = .ok (.goto 5, 3) := by decide +kernel
theorem dX11_least_85 : decode cX11_least 85 = .ok (.iload 5, 2) := by decide +kernel
theorem dX11_least_87 : decode cX11_least 87 = .ok (.ireturn, 1) := by decide +kernel
theorem dX11_foreseeOwners_0 : decode cX11_foreseeOwners 0 = .ok (.aload_n 0, 1) := by decide +kernel
theorem dX11_foreseeOwners_1 : decode cX11_foreseeOwners 1 = .ok (.getfield 38, 3) := by decide +kernel
theorem dX11_foreseeOwners_4 : decode cX11_foreseeOwners 4 = .ok (.getfield 116, 3) := by decide +kernel
theorem dX11_foreseeOwners_7 : decode cX11_foreseeOwners 7 = .ok (.astore 4, 2) := by decide +kernel
theorem dX11_foreseeOwners_9 : decode cX11_foreseeOwners 9 = .ok (.aload_n 0, 1) := by decide +kernel
theorem dX11_foreseeOwners_10 : decode cX11_foreseeOwners 10 = .ok (.getfield 38, 3) := by decide +kernel
theorem dX11_foreseeOwners_13 : decode cX11_foreseeOwners 13 = .ok (.getfield 142, 3) := by decide +kernel
theorem dX11_foreseeOwners_16 : decode cX11_foreseeOwners 16 = .ok (.getfield 165, 3) := by decide +kernel
theorem dX11_foreseeOwners_19 : decode cX11_foreseeOwners 19 = .ok (.istore 5, 2) := by decide +kernel
theorem dX11_foreseeOwners_21 : decode cX11_foreseeOwners 21 = .ok (.iconst 0, 1) := by decide +kernel
theorem dX11_foreseeOwners_22 : decode cX11_foreseeOwners 22 = .ok (.istore 6, 2) := by decide +kernel
theorem dX11_foreseeOwners_24 : decode cX11_foreseeOwners 24 = .ok (.iload 6, 2) := by decide +kernel
theorem dX11_foreseeOwners_26 : decode cX11_foreseeOwners 26 = .ok (.aload 4, 2) := by decide +kernel
theorem dX11_foreseeOwners_28 : decode cX11_foreseeOwners 28 = .ok (.getfield 198, 3) := by decide +kernel
theorem dX11_foreseeOwners_31 : decode cX11_foreseeOwners 31 = .ok (.iload_n 2, 1) := by decide +kernel
theorem dX11_foreseeOwners_32 : decode cX11_foreseeOwners 32 = .ok (.iaload, 1) := by decide +kernel
theorem dX11_foreseeOwners_33 : decode cX11_foreseeOwners 33 = .ok (.if_icmp .ge 94, 3) := by decide +kernel
theorem dX11_foreseeOwners_36 : decode cX11_foreseeOwners 36 = .ok (.aload_n 0, 1) := by decide +kernel
theorem dX11_foreseeOwners_37 : decode cX11_foreseeOwners 37 = .ok (.getfield 38, 3) := by decide +kernel
theorem dX11_foreseeOwners_40 : decode cX11_foreseeOwners 40 = .ok (.getfield 142, 3) := by decide +kernel
theorem dX11_foreseeOwners_43 : decode cX11_foreseeOwners 43 = .ok (.getfield 152, 3) := by decide +kernel
theorem dX11_foreseeOwners_46 : decode cX11_foreseeOwners 46 = .ok (.aload 4, 2) := by decide +kernel
theorem dX11_foreseeOwners_48 : decode cX11_foreseeOwners 48 = .ok (.getfield 195, 3) := by decide +kernel
theorem dX11_foreseeOwners_51 : decode cX11_foreseeOwners 51 = .ok (.iload_n 2, 1) := by decide +kernel
theorem dX11_foreseeOwners_52 : decode cX11_foreseeOwners 52 = .ok (.iaload, 1) := by decide +kernel
theorem dX11_foreseeOwners_53 : decode cX11_foreseeOwners 53 = .ok (.iload 6, 2) := by decide +kernel
theorem dX11_foreseeOwners_55 : decode cX11_foreseeOwners 55 = .ok (.iadd, 1) := by decide +kernel
theorem dX11_foreseeOwners_56 : decode cX11_foreseeOwners 56 = .ok (.laload, 1) := by decide +kernel
theorem dX11_foreseeOwners_57 : decode cX11_foreseeOwners 57 = .ok (.lstore 7, 2) := by decide +kernel
theorem dX11_foreseeOwners_59 : decode cX11_foreseeOwners 59 = .ok (.lload 7, 2) := by decide +kernel
theorem dX11_foreseeOwners_61 : decode cX11_foreseeOwners 61 = .ok (.iload_n 1, 1) := by decide +kernel
theorem dX11_foreseeOwners_62 : decode cX11_foreseeOwners 62 = .ok (.iload 5, 2) := by decide +kernel
theorem dX11_foreseeOwners_64 : decode cX11_foreseeOwners 64 = .ok (.invokestatic 304, 3) := by decide +kernel
theorem dX11_foreseeOwners_67 : decode cX11_foreseeOwners 67 = .ok (.lstore 9, 2) := by decide +kernel
theorem dX11_foreseeOwners_69 : decode cX11_foreseeOwners 69 = .ok (.aload_n 0, 1) := by decide +kernel
theorem dX11_foreseeOwners_70 : decode cX11_foreseeOwners 70 = .ok (.getfield 74, 3) := by decide +kernel
theorem dX11_foreseeOwners_73 : decode cX11_foreseeOwners 73 = .ok (.iload 6, 2) := by decide +kernel
theorem dX11_foreseeOwners_75 : decode cX11_foreseeOwners 75 = .ok (.aload 4, 2) := by decide +kernel
theorem dX11_foreseeOwners_77 : decode cX11_foreseeOwners 77 = .ok (.aload 4, 2) := by decide +kernel
theorem dX11_foreseeOwners_79 : decode cX11_foreseeOwners 79 = .ok (.lload 7, 2) := by decide +kernel
theorem dX11_foreseeOwners_81 : decode cX11_foreseeOwners 81 = .ok (.iload 5, 2) := by decide +kernel
theorem dX11_foreseeOwners_83 : decode cX11_foreseeOwners 83 = .ok (.iload_n 3, 1) := by decide +kernel
theorem dX11_foreseeOwners_84 : decode cX11_foreseeOwners 84 = .ok (.invokevirtual 328, 3) := by decide +kernel
theorem dX11_foreseeOwners_87 : decode cX11_foreseeOwners 87 = .ok (.iload 5, 2) := by decide +kernel
theorem dX11_foreseeOwners_89 : decode cX11_foreseeOwners 89 = .ok (.iload_n 3, 1) := by decide +kernel
theorem dX11_foreseeOwners_90 : decode cX11_foreseeOwners 90 = .ok (.iadd, 1) := by decide +kernel
theorem dX11_foreseeOwners_91 : decode cX11_foreseeOwners 91 = .ok (.invokevirtual 168, 3) := by decide +kernel
theorem dX11_foreseeOwners_94 : decode cX11_foreseeOwners 94 = .ok (.iastore, 1) := by decide +kernel
theorem dX11_foreseeOwners_95 : decode cX11_foreseeOwners 95 = .ok (.aload_n 0, 1) := by decide +kernel
theorem dX11_foreseeOwners_96 : decode cX11_foreseeOwners 96 = .ok (.getfield 78, 3) := by decide +kernel
theorem dX11_foreseeOwners_99 : decode cX11_foreseeOwners 99 = .ok (.iload 6, 2) := by decide +kernel
theorem dX11_foreseeOwners_101 : decode cX11_foreseeOwners 101 = .ok (.aload 4, 2) := by decide +kernel
theorem dX11_foreseeOwners_103 : decode cX11_foreseeOwners 103 = .ok (.aload 4, 2) := by decide +kernel
theorem dX11_foreseeOwners_105 : decode cX11_foreseeOwners 105 = .ok (.lload 9, 2) := by decide +kernel
theorem dX11_foreseeOwners_107 : decode cX11_foreseeOwners 107 = .ok (.iload 5, 2) := by decide +kernel
theorem dX11_foreseeOwners_109 : decode cX11_foreseeOwners 109 = .ok (.iload_n 3, 1) := by decide +kernel
theorem dX11_foreseeOwners_110 : decode cX11_foreseeOwners 110 = .ok (.invokevirtual 328, 3) := by decide +kernel
theorem dX11_foreseeOwners_113 : decode cX11_foreseeOwners 113 = .ok (.iload 5, 2) := by decide +kernel
theorem dX11_foreseeOwners_115 : decode cX11_foreseeOwners 115 = .ok (.iload_n 3, 1) := by decide +kernel
theorem dX11_foreseeOwners_116 : decode cX11_foreseeOwners 116 = .ok (.iadd, 1) := by decide +kernel
theorem dX11_foreseeOwners_117 : decode cX11_foreseeOwners 117 = .ok (.invokevirtual 168, 3) := by decide +kernel
theorem dX11_foreseeOwners_120 : decode cX11_foreseeOwners 120 = .ok (.iastore, 1) := by decide +kernel
theorem dX11_foreseeOwners_121 : decode cX11_foreseeOwners 121 = .ok (.iinc 6 1, 3) := by decide +kernel
theorem dX11_foreseeOwners_124 : decode cX11_foreseeOwners 124 = .ok (.goto (-100), 3) := by decide +kernel
theorem dX11_foreseeOwners_127 : decode cX11_foreseeOwners 127 = .ok (.return_, 1) := by decide +kernel
theorem dX11_leastSet_0 : decode cX11_leastSet 0 = .ok (.aload_n 0, 1) := by decide +kernel
theorem dX11_leastSet_1 : decode cX11_leastSet 1 = .ok (.getfield 38, 3) := by decide +kernel
theorem dX11_leastSet_4 : decode cX11_leastSet 4 = .ok (.getfield 116, 3) := by decide +kernel
theorem dX11_leastSet_7 : decode cX11_leastSet 7 = .ok (.getfield 198, 3) := by decide +kernel
theorem dX11_leastSet_10 : decode cX11_leastSet 10 = .ok (.iload_n 2, 1) := by decide +kernel
theorem dX11_leastSet_11 : decode cX11_leastSet 11 = .ok (.iaload, 1) := by decide +kernel
theorem dX11_leastSet_12 : decode cX11_leastSet 12 = .ok (.istore_n 3, 1) := by decide +kernel
theorem dX11_leastSet_13 : decode cX11_leastSet 13 = .ok (.iconst (-1), 1) := by decide +kernel
theorem dX11_leastSet_14 : decode cX11_leastSet 14 = .ok (.istore 4, 2) := by decide +kernel
theorem dX11_leastSet_16 : decode cX11_leastSet 16 = .ok (.iconst 0, 1) := by decide +kernel
theorem dX11_leastSet_17 : decode cX11_leastSet 17 = .ok (.istore 5, 2) := by decide +kernel
theorem dX11_leastSet_19 : decode cX11_leastSet 19 = .ok (.iload 5, 2) := by decide +kernel
theorem dX11_leastSet_21 : decode cX11_leastSet 21 = .ok (.iconst 1, 1) := by decide +kernel
theorem dX11_leastSet_22 : decode cX11_leastSet 22 = .ok (.iload_n 3, 1) := by decide +kernel
theorem dX11_leastSet_23 : decode cX11_leastSet 23 = .ok (.ishl, 1) := by decide +kernel
theorem dX11_leastSet_24 : decode cX11_leastSet 24 = .ok (.if_icmp .ge 106, 3) := by decide +kernel
theorem dX11_leastSet_27 : decode cX11_leastSet 27 = .ok (.iconst 0, 1) := by decide +kernel
theorem dX11_leastSet_28 : decode cX11_leastSet 28 = .ok (.istore 6, 2) := by decide +kernel
theorem dX11_leastSet_30 : decode cX11_leastSet 30 = .ok (.iconst 0, 1) := by decide +kernel
theorem dX11_leastSet_31 : decode cX11_leastSet 31 = .ok (.istore 7, 2) := by decide +kernel
theorem dX11_leastSet_33 : decode cX11_leastSet 33 = .ok (.iload 7, 2) := by decide +kernel
theorem dX11_leastSet_35 : decode cX11_leastSet 35 = .ok (.iload_n 3, 1) := by decide +kernel
theorem dX11_leastSet_36 : decode cX11_leastSet 36 = .ok (.if_icmp .ge 45, 3) := by decide +kernel
theorem dX11_leastSet_39 : decode cX11_leastSet 39 = .ok (.iload 6, 2) := by decide +kernel
theorem dX11_leastSet_41 : decode cX11_leastSet 41 = .ok (.iload 5, 2) := by decide +kernel
theorem dX11_leastSet_43 : decode cX11_leastSet 43 = .ok (.iload 7, 2) := by decide +kernel
theorem dX11_leastSet_45 : decode cX11_leastSet 45 = .ok (.ishr, 1) := by decide +kernel
theorem dX11_leastSet_46 : decode cX11_leastSet 46 = .ok (.iconst 1, 1) := by decide +kernel
theorem dX11_leastSet_47 : decode cX11_leastSet 47 = .ok (.iand, 1) := by decide +kernel
theorem dX11_leastSet_48 : decode cX11_leastSet 48 = .ok (.iconst 1, 1) := by decide +kernel
theorem dX11_leastSet_49 : decode cX11_leastSet 49 = .ok (.if_icmp .ne 13, 3) := by decide +kernel
theorem dX11_leastSet_52 : decode cX11_leastSet 52 = .ok (.aload_n 0, 1) := by decide +kernel
theorem dX11_leastSet_53 : decode cX11_leastSet 53 = .ok (.getfield 78, 3) := by decide +kernel
theorem dX11_leastSet_56 : decode cX11_leastSet 56 = .ok (.iload 7, 2) := by decide +kernel
theorem dX11_leastSet_58 : decode cX11_leastSet 58 = .ok (.iaload, 1) := by decide +kernel
theorem dX11_leastSet_59 : decode cX11_leastSet 59 = .ok (.goto 10, 3) := by decide +kernel
theorem dX11_leastSet_62 : decode cX11_leastSet 62 = .ok (.aload_n 0, 1) := by decide +kernel
theorem dX11_leastSet_63 : decode cX11_leastSet 63 = .ok (.getfield 74, 3) := by decide +kernel
theorem dX11_leastSet_66 : decode cX11_leastSet 66 = .ok (.iload 7, 2) := by decide +kernel
theorem dX11_leastSet_68 : decode cX11_leastSet 68 = .ok (.iaload, 1) := by decide +kernel
theorem dX11_leastSet_69 : decode cX11_leastSet 69 = .ok (.invokestatic 331, 3) := by decide +kernel
theorem dX11_leastSet_72 : decode cX11_leastSet 72 = .ok (.iadd, 1) := by decide +kernel
theorem dX11_leastSet_73 : decode cX11_leastSet 73 = .ok (.istore 6, 2) := by decide +kernel
theorem dX11_leastSet_75 : decode cX11_leastSet 75 = .ok (.iinc 7 1, 3) := by decide +kernel
theorem dX11_leastSet_78 : decode cX11_leastSet 78 = .ok (.goto (-45), 3) := by decide +kernel
theorem dX11_leastSet_81 : decode cX11_leastSet 81 = .ok (.iload 6, 2) := by decide +kernel
theorem dX11_leastSet_83 : decode cX11_leastSet 83 = .ok (.iload_n 3, 1) := by decide +kernel
theorem dX11_leastSet_84 : decode cX11_leastSet 84 = .ok (.aload_n 0, 1) := by decide +kernel
theorem dX11_leastSet_85 : decode cX11_leastSet 85 = .ok (.getfield 38, 3) := by decide +kernel
theorem dX11_leastSet_88 : decode cX11_leastSet 88 = .ok (.getfield 116, 3) := by decide +kernel
theorem dX11_leastSet_91 : decode cX11_leastSet 91 = .ok (.getfield 248, 3) := by decide +kernel
theorem dX11_leastSet_94 : decode cX11_leastSet 94 = .ok (.invokestatic 334, 3) := by decide +kernel
theorem dX11_leastSet_97 : decode cX11_leastSet 97 = .ok (.iload_n 1, 1) := by decide +kernel
theorem dX11_leastSet_98 : decode cX11_leastSet 98 = .ok (.if_icmp .ne 26, 3) := by decide +kernel
theorem dX11_leastSet_101 : decode cX11_leastSet 101 = .ok (.iload 4, 2) := by decide +kernel
theorem dX11_leastSet_103 : decode cX11_leastSet 103 = .ok (.iconst (-1), 1) := by decide +kernel
theorem dX11_leastSet_104 : decode cX11_leastSet 104 = .ok (.if_icmp .eq 16, 3) := by decide +kernel
theorem dX11_leastSet_107 : decode cX11_leastSet 107 = .ok (.iload 5, 2) := by decide +kernel
theorem dX11_leastSet_109 : decode cX11_leastSet 109 = .ok (.invokestatic 323, 3) := by decide +kernel
theorem dX11_leastSet_112 : decode cX11_leastSet 112 = .ok (.iload 4, 2) := by decide +kernel
theorem dX11_leastSet_114 : decode cX11_leastSet 114 = .ok (.invokestatic 323, 3) := by decide +kernel
theorem dX11_leastSet_117 : decode cX11_leastSet 117 = .ok (.if_icmp .ge 7, 3) := by decide +kernel
theorem dX11_leastSet_120 : decode cX11_leastSet 120 = .ok (.iload 5, 2) := by decide +kernel
theorem dX11_leastSet_122 : decode cX11_leastSet 122 = .ok (.istore 4, 2) := by decide +kernel
theorem dX11_leastSet_124 : decode cX11_leastSet 124 = .ok (.iinc 5 1, 3) := by decide +kernel
theorem dX11_leastSet_127 : decode cX11_leastSet 127 = .ok (.goto (-108), 3) := by decide +kernel
theorem dX11_leastSet_130 : decode cX11_leastSet 130 = .ok (.iload 4, 2) := by decide +kernel
theorem dX11_leastSet_132 : decode cX11_leastSet 132 = .ok (.ireturn, 1) := by decide +kernel
theorem dX11_fewest_0 : decode cX11_fewest 0 = .ok (.aload_n 0, 1) := by decide +kernel
theorem dX11_fewest_1 : decode cX11_fewest 1 = .ok (.iload_n 1, 1) := by decide +kernel
theorem dX11_fewest_2 : decode cX11_fewest 2 = .ok (.invokevirtual 183, 3) := by decide +kernel
theorem dX11_fewest_5 : decode cX11_fewest 5 = .ok (.ifCond .eq 21, 3) := by decide +kernel
theorem dX11_fewest_8 : decode cX11_fewest 8 = .ok (.aload_n 0, 1) := by decide +kernel
theorem dX11_fewest_9 : decode cX11_fewest 9 = .ok (.iload_n 2, 1) := by decide +kernel
theorem dX11_fewest_10 : decode cX11_fewest 10 = .ok (.invokevirtual 192, 3) := by decide +kernel
theorem dX11_fewest_13 : decode cX11_fewest 13 = .ok (.ifCond .eq 13, 3) := by decide +kernel
theorem dX11_fewest_16 : decode cX11_fewest 16 = .ok (.iload_n 3, 1) := by decide +kernel
theorem dX11_fewest_17 : decode cX11_fewest 17 = .ok (.iconst 0, 1) := by decide +kernel
theorem dX11_fewest_18 : decode cX11_fewest 18 = .ok (.bipush 6, 2) := by decide +kernel
theorem dX11_fewest_20 : decode cX11_fewest 20 = .ok (.invokestatic 285, 3) := by decide +kernel
theorem dX11_fewest_23 : decode cX11_fewest 23 = .ok (.ifCond .ne 5, 3) := by decide +kernel
theorem dX11_fewest_26 : decode cX11_fewest 26 = .ok (.iconst (-1), 1) := by decide +kernel
theorem dX11_fewest_27 : decode cX11_fewest 27 = .ok (.ireturn, 1) := by decide +kernel
theorem dX11_fewest_28 : decode cX11_fewest 28 = .ok (.aload_n 0, 1) := by decide +kernel
theorem dX11_fewest_29 : decode cX11_fewest 29 = .ok (.iload_n 2, 1) := by decide +kernel
theorem dX11_fewest_30 : decode cX11_fewest 30 = .ok (.invokevirtual 208, 3) := by decide +kernel
theorem dX11_fewest_33 : decode cX11_fewest 33 = .ok (.ifCond .ne 19, 3) := by decide +kernel
theorem dX11_fewest_36 : decode cX11_fewest 36 = .ok (.iload_n 3, 1) := by decide +kernel
theorem dX11_fewest_37 : decode cX11_fewest 37 = .ok (.aload_n 0, 1) := by decide +kernel
theorem dX11_fewest_38 : decode cX11_fewest 38 = .ok (.getfield 38, 3) := by decide +kernel
theorem dX11_fewest_41 : decode cX11_fewest 41 = .ok (.getfield 116, 3) := by decide +kernel
theorem dX11_fewest_44 : decode cX11_fewest 44 = .ok (.getfield 198, 3) := by decide +kernel
theorem dX11_fewest_47 : decode cX11_fewest 47 = .ok (.iload_n 2, 1) := by decide +kernel
theorem dX11_fewest_48 : decode cX11_fewest 48 = .ok (.iaload, 1) := by decide +kernel
theorem dX11_fewest_49 : decode cX11_fewest 49 = .ok (.if_icmp .le 6, 3) := by decide +kernel
theorem dX11_fewest_52 : decode cX11_fewest 52 = .ok (.bipush (-2), 2) := by decide +kernel
theorem dX11_fewest_54 : decode cX11_fewest 54 = .ok (.ireturn, 1) := by decide +kernel
theorem dX11_fewest_55 : decode cX11_fewest 55 = .ok (.aload_n 0, 1) := by decide +kernel
theorem dX11_fewest_56 : decode cX11_fewest 56 = .ok (.getfield 70, 3) := by decide +kernel
theorem dX11_fewest_59 : decode cX11_fewest 59 = .ok (.aload_n 0, 1) := by decide +kernel
theorem dX11_fewest_60 : decode cX11_fewest 60 = .ok (.getfield 38, 3) := by decide +kernel
theorem dX11_fewest_63 : decode cX11_fewest 63 = .ok (.getfield 116, 3) := by decide +kernel
theorem dX11_fewest_66 : decode cX11_fewest 66 = .ok (.aload_n 0, 1) := by decide +kernel
theorem dX11_fewest_67 : decode cX11_fewest 67 = .ok (.getfield 38, 3) := by decide +kernel
theorem dX11_fewest_70 : decode cX11_fewest 70 = .ok (.getfield 142, 3) := by decide +kernel
theorem dX11_fewest_73 : decode cX11_fewest 73 = .ok (.iload_n 1, 1) := by decide +kernel
theorem dX11_fewest_74 : decode cX11_fewest 74 = .ok (.iload_n 2, 1) := by decide +kernel
theorem dX11_fewest_75 : decode cX11_fewest 75 = .ok (.invokevirtual 338, 3) := by decide +kernel
theorem dX11_fewest_78 : decode cX11_fewest 78 = .ok (.ifCond .ne 6, 3) := by decide +kernel
theorem dX11_fewest_81 : decode cX11_fewest 81 = .ok (.bipush (-2), 2) := by decide +kernel
theorem dX11_fewest_83 : decode cX11_fewest 83 = .ok (.ireturn, 1) := by decide +kernel
theorem dX11_fewest_84 : decode cX11_fewest 84 = .ok (.iload_n 3, 1) := by decide +kernel
theorem dX11_fewest_85 : decode cX11_fewest 85 = .ok (.ifCond .ne 13, 3) := by decide +kernel
theorem dX11_fewest_88 : decode cX11_fewest 88 = .ok (.aload_n 0, 1) := by decide +kernel
theorem dX11_fewest_89 : decode cX11_fewest 89 = .ok (.getfield 70, 3) := by decide +kernel
theorem dX11_fewest_92 : decode cX11_fewest 92 = .ok (.getfield 342, 3) := by decide +kernel
theorem dX11_fewest_95 : decode cX11_fewest 95 = .ok (.goto 14, 3) := by decide +kernel
theorem dX11_fewest_98 : decode cX11_fewest 98 = .ok (.aload_n 0, 1) := by decide +kernel
theorem dX11_fewest_99 : decode cX11_fewest 99 = .ok (.getfield 70, 3) := by decide +kernel
theorem dX11_fewest_102 : decode cX11_fewest 102 = .ok (.getfield 345, 3) := by decide +kernel
theorem dX11_fewest_105 : decode cX11_fewest 105 = .ok (.iload_n 3, 1) := by decide +kernel
theorem dX11_fewest_106 : decode cX11_fewest 106 = .ok (.iconst 1, 1) := by decide +kernel
theorem dX11_fewest_107 : decode cX11_fewest 107 = .ok (.isub, 1) := by decide +kernel
theorem dX11_fewest_108 : decode cX11_fewest 108 = .ok (.iaload, 1) := by decide +kernel
theorem dX11_fewest_109 : decode cX11_fewest 109 = .ok (.ireturn, 1) := by decide +kernel
theorem dX11_game_0 : decode cX11_game 0 = .ok (.aload_n 0, 1) := by decide +kernel
theorem dX11_game_1 : decode cX11_game 1 = .ok (.iload_n 1, 1) := by decide +kernel
theorem dX11_game_2 : decode cX11_game 2 = .ok (.invokevirtual 183, 3) := by decide +kernel
theorem dX11_game_5 : decode cX11_game 5 = .ok (.ifCond .eq 32, 3) := by decide +kernel
theorem dX11_game_8 : decode cX11_game 8 = .ok (.aload_n 0, 1) := by decide +kernel
theorem dX11_game_9 : decode cX11_game 9 = .ok (.iload_n 2, 1) := by decide +kernel
theorem dX11_game_10 : decode cX11_game 10 = .ok (.invokevirtual 183, 3) := by decide +kernel
theorem dX11_game_13 : decode cX11_game 13 = .ok (.ifCond .eq 24, 3) := by decide +kernel
theorem dX11_game_16 : decode cX11_game 16 = .ok (.iload_n 1, 1) := by decide +kernel
theorem dX11_game_17 : decode cX11_game 17 = .ok (.iload_n 2, 1) := by decide +kernel
theorem dX11_game_18 : decode cX11_game 18 = .ok (.if_icmp .eq 19, 3) := by decide +kernel
theorem dX11_game_21 : decode cX11_game 21 = .ok (.aload_n 0, 1) := by decide +kernel
theorem dX11_game_22 : decode cX11_game 22 = .ok (.iload_n 3, 1) := by decide +kernel
theorem dX11_game_23 : decode cX11_game 23 = .ok (.invokevirtual 192, 3) := by decide +kernel
theorem dX11_game_26 : decode cX11_game 26 = .ok (.ifCond .eq 11, 3) := by decide +kernel
theorem dX11_game_29 : decode cX11_game 29 = .ok (.aload_n 0, 1) := by decide +kernel
theorem dX11_game_30 : decode cX11_game 30 = .ok (.iload_n 3, 1) := by decide +kernel
theorem dX11_game_31 : decode cX11_game 31 = .ok (.invokevirtual 208, 3) := by decide +kernel
theorem dX11_game_34 : decode cX11_game 34 = .ok (.ifCond .eq 6, 3) := by decide +kernel
theorem dX11_game_37 : decode cX11_game 37 = .ok (.bipush (-100), 2) := by decide +kernel
theorem dX11_game_39 : decode cX11_game 39 = .ok (.ireturn, 1) := by decide +kernel
theorem dX11_game_40 : decode cX11_game 40 = .ok (.iload 4, 2) := by decide +kernel
theorem dX11_game_42 : decode cX11_game 42 = .ok (.iconst 1, 1) := by decide +kernel
theorem dX11_game_43 : decode cX11_game 43 = .ok (.iconst 4, 1) := by decide +kernel
theorem dX11_game_44 : decode cX11_game 44 = .ok (.invokestatic 285, 3) := by decide +kernel
theorem dX11_game_47 : decode cX11_game 47 = .ok (.ifCond .eq 13, 3) := by decide +kernel
theorem dX11_game_50 : decode cX11_game 50 = .ok (.iload 5, 2) := by decide +kernel
theorem dX11_game_52 : decode cX11_game 52 = .ok (.iconst 0, 1) := by decide +kernel
theorem dX11_game_53 : decode cX11_game 53 = .ok (.iconst 1, 1) := by decide +kernel
theorem dX11_game_54 : decode cX11_game 54 = .ok (.invokestatic 285, 3) := by decide +kernel
theorem dX11_game_57 : decode cX11_game 57 = .ok (.ifCond .ne 6, 3) := by decide +kernel
theorem dX11_game_60 : decode cX11_game 60 = .ok (.bipush (-100), 2) := by decide +kernel
theorem dX11_game_62 : decode cX11_game 62 = .ok (.ireturn, 1) := by decide +kernel
theorem dX11_game_63 : decode cX11_game 63 = .ok (.aload_n 0, 1) := by decide +kernel
theorem dX11_game_64 : decode cX11_game 64 = .ok (.getfield 63, 3) := by decide +kernel
theorem dX11_game_67 : decode cX11_game 67 = .ok (.aload_n 0, 1) := by decide +kernel
theorem dX11_game_68 : decode cX11_game 68 = .ok (.getfield 38, 3) := by decide +kernel
theorem dX11_game_71 : decode cX11_game 71 = .ok (.getfield 116, 3) := by decide +kernel
theorem dX11_game_74 : decode cX11_game 74 = .ok (.aload_n 0, 1) := by decide +kernel
theorem dX11_game_75 : decode cX11_game 75 = .ok (.getfield 38, 3) := by decide +kernel
theorem dX11_game_78 : decode cX11_game 78 = .ok (.getfield 142, 3) := by decide +kernel
theorem dX11_game_81 : decode cX11_game 81 = .ok (.iload_n 3, 1) := by decide +kernel
theorem dX11_game_82 : decode cX11_game 82 = .ok (.invokevirtual 348, 3) := by decide +kernel
theorem dX11_game_85 : decode cX11_game 85 = .ok (.aload_n 0, 1) := by decide +kernel
theorem dX11_game_86 : decode cX11_game 86 = .ok (.getfield 63, 3) := by decide +kernel
theorem dX11_game_89 : decode cX11_game 89 = .ok (.iload_n 1, 1) := by decide +kernel
theorem dX11_game_90 : decode cX11_game 90 = .ok (.iload_n 2, 1) := by decide +kernel
theorem dX11_game_91 : decode cX11_game 91 = .ok (.iload 4, 2) := by decide +kernel
theorem dX11_game_93 : decode cX11_game 93 = .ok (.invokevirtual 352, 3) := by decide +kernel
theorem dX11_game_96 : decode cX11_game 96 = .ok (.aload_n 0, 1) := by decide +kernel
theorem dX11_game_97 : decode cX11_game 97 = .ok (.getfield 63, 3) := by decide +kernel
theorem dX11_game_100 : decode cX11_game 100 = .ok (.aload_n 0, 1) := by decide +kernel
theorem dX11_game_101 : decode cX11_game 101 = .ok (.getfield 38, 3) := by decide +kernel
theorem dX11_game_104 : decode cX11_game 104 = .ok (.getfield 116, 3) := by decide +kernel
theorem dX11_game_107 : decode cX11_game 107 = .ok (.iconst 0, 1) := by decide +kernel
theorem dX11_game_108 : decode cX11_game 108 = .ok (.invokevirtual 355, 3) := by decide +kernel
theorem dX11_game_111 : decode cX11_game 111 = .ok (.istore 6, 2) := by decide +kernel
theorem dX11_game_113 : decode cX11_game 113 = .ok (.iload 5, 2) := by decide +kernel
theorem dX11_game_115 : decode cX11_game 115 = .ok (.ifCond .ne 6, 3) := by decide +kernel
theorem dX11_game_118 : decode cX11_game 118 = .ok (.iload 6, 2) := by decide +kernel
theorem dX11_game_120 : decode cX11_game 120 = .ok (.ireturn, 1) := by decide +kernel
theorem dX11_game_121 : decode cX11_game 121 = .ok (.aload_n 0, 1) := by decide +kernel
theorem dX11_game_122 : decode cX11_game 122 = .ok (.getfield 63, 3) := by decide +kernel
theorem dX11_game_125 : decode cX11_game 125 = .ok (.getfield 359, 3) := by decide +kernel
theorem dX11_game_128 : decode cX11_game 128 = .ok (.iconst (-1), 1) := by decide +kernel
theorem dX11_game_129 : decode cX11_game 129 = .ok (.if_icmp .ne 7, 3) := by decide +kernel
theorem dX11_game_132 : decode cX11_game 132 = .ok (.iconst (-1), 1) := by decide +kernel
theorem dX11_game_133 : decode cX11_game 133 = .ok (.goto 23, 3) := by decide +kernel
theorem dX11_game_136 : decode cX11_game 136 = .ok (.aload_n 0, 1) := by decide +kernel
theorem dX11_game_137 : decode cX11_game 137 = .ok (.getfield 38, 3) := by decide +kernel
theorem dX11_game_140 : decode cX11_game 140 = .ok (.getfield 116, 3) := by decide +kernel
theorem dX11_game_143 : decode cX11_game 143 = .ok (.getfield 195, 3) := by decide +kernel
theorem dX11_game_146 : decode cX11_game 146 = .ok (.iload_n 3, 1) := by decide +kernel
theorem dX11_game_147 : decode cX11_game 147 = .ok (.iaload, 1) := by decide +kernel
theorem dX11_game_148 : decode cX11_game 148 = .ok (.aload_n 0, 1) := by decide +kernel
theorem dX11_game_149 : decode cX11_game 149 = .ok (.getfield 63, 3) := by decide +kernel
theorem dX11_game_152 : decode cX11_game 152 = .ok (.getfield 359, 3) := by decide +kernel
theorem dX11_game_155 : decode cX11_game 155 = .ok (.iadd, 1) := by decide +kernel
theorem dX11_game_156 : decode cX11_game 156 = .ok (.ireturn, 1) := by decide +kernel
theorem dX11_share_0 : decode cX11_share 0 = .ok (.aload_n 0, 1) := by decide +kernel
theorem dX11_share_1 : decode cX11_share 1 = .ok (.iload_n 1, 1) := by decide +kernel
theorem dX11_share_2 : decode cX11_share 2 = .ok (.invokevirtual 183, 3) := by decide +kernel
theorem dX11_share_5 : decode cX11_share 5 = .ok (.ifCond .eq 20, 3) := by decide +kernel
theorem dX11_share_8 : decode cX11_share 8 = .ok (.aload_n 0, 1) := by decide +kernel
theorem dX11_share_9 : decode cX11_share 9 = .ok (.iload_n 2, 1) := by decide +kernel
theorem dX11_share_10 : decode cX11_share 10 = .ok (.invokevirtual 192, 3) := by decide +kernel
theorem dX11_share_13 : decode cX11_share 13 = .ok (.ifCond .eq 12, 3) := by decide +kernel
theorem dX11_share_16 : decode cX11_share 16 = .ok (.iload_n 3, 1) := by decide +kernel
theorem dX11_share_17 : decode cX11_share 17 = .ok (.iconst 0, 1) := by decide +kernel
theorem dX11_share_18 : decode cX11_share 18 = .ok (.iconst 1, 1) := by decide +kernel
theorem dX11_share_19 : decode cX11_share 19 = .ok (.invokestatic 285, 3) := by decide +kernel
theorem dX11_share_22 : decode cX11_share 22 = .ok (.ifCond .ne 5, 3) := by decide +kernel
theorem dX11_share_25 : decode cX11_share 25 = .ok (.iconst (-1), 1) := by decide +kernel
theorem dX11_share_26 : decode cX11_share 26 = .ok (.ireturn, 1) := by decide +kernel
theorem dX11_share_27 : decode cX11_share 27 = .ok (.aload_n 0, 1) := by decide +kernel
theorem dX11_share_28 : decode cX11_share 28 = .ok (.getfield 38, 3) := by decide +kernel
theorem dX11_share_31 : decode cX11_share 31 = .ok (.getfield 116, 3) := by decide +kernel
theorem dX11_share_34 : decode cX11_share 34 = .ok (.aload_n 0, 1) := by decide +kernel
theorem dX11_share_35 : decode cX11_share 35 = .ok (.getfield 38, 3) := by decide +kernel
theorem dX11_share_38 : decode cX11_share 38 = .ok (.getfield 142, 3) := by decide +kernel
theorem dX11_share_41 : decode cX11_share 41 = .ok (.iload_n 2, 1) := by decide +kernel
theorem dX11_share_42 : decode cX11_share 42 = .ok (.invokevirtual 362, 3) := by decide +kernel
theorem dX11_share_45 : decode cX11_share 45 = .ok (.iload_n 1, 1) := by decide +kernel
theorem dX11_share_46 : decode cX11_share 46 = .ok (.invokestatic 365, 3) := by decide +kernel
theorem dX11_share_49 : decode cX11_share 49 = .ok (.istore 4, 2) := by decide +kernel
theorem dX11_share_51 : decode cX11_share 51 = .ok (.aload_n 0, 1) := by decide +kernel
theorem dX11_share_52 : decode cX11_share 52 = .ok (.getfield 38, 3) := by decide +kernel
theorem dX11_share_55 : decode cX11_share 55 = .ok (.getfield 116, 3) := by decide +kernel
theorem dX11_share_58 : decode cX11_share 58 = .ok (.getfield 198, 3) := by decide +kernel
theorem dX11_share_61 : decode cX11_share 61 = .ok (.iload_n 2, 1) := by decide +kernel
theorem dX11_share_62 : decode cX11_share 62 = .ok (.iaload, 1) := by decide +kernel
theorem dX11_share_63 : decode cX11_share 63 = .ok (.istore 5, 2) := by decide +kernel
theorem dX11_share_65 : decode cX11_share 65 = .ok (.iload 4, 2) := by decide +kernel
theorem dX11_share_67 : decode cX11_share 67 = .ok (.iload 5, 2) := by decide +kernel
theorem dX11_share_69 : decode cX11_share 69 = .ok (.invokestatic 368, 3) := by decide +kernel
theorem dX11_share_72 : decode cX11_share 72 = .ok (.istore 6, 2) := by decide +kernel
theorem dX11_share_74 : decode cX11_share 74 = .ok (.iload 6, 2) := by decide +kernel
theorem dX11_share_76 : decode cX11_share 76 = .ok (.ifCond .ne 5, 3) := by decide +kernel
theorem dX11_share_79 : decode cX11_share 79 = .ok (.iconst (-1), 1) := by decide +kernel
theorem dX11_share_80 : decode cX11_share 80 = .ok (.ireturn, 1) := by decide +kernel
theorem dX11_share_81 : decode cX11_share 81 = .ok (.iload_n 3, 1) := by decide +kernel
theorem dX11_share_82 : decode cX11_share 82 = .ok (.ifCond .ne 8, 3) := by decide +kernel
theorem dX11_share_85 : decode cX11_share 85 = .ok (.iload 4, 2) := by decide +kernel
theorem dX11_share_87 : decode cX11_share 87 = .ok (.goto 5, 3) := by decide +kernel
theorem dX11_share_90 : decode cX11_share 90 = .ok (.iload 5, 2) := by decide +kernel
theorem dX11_share_92 : decode cX11_share 92 = .ok (.iload 6, 2) := by decide +kernel
theorem dX11_share_94 : decode cX11_share 94 = .ok (.idiv, 1) := by decide +kernel
theorem dX11_share_95 : decode cX11_share 95 = .ok (.ireturn, 1) := by decide +kernel
theorem dX11_commonDivisor_0 : decode cX11_commonDivisor 0 = .ok (.iconst 0, 1) := by decide +kernel
theorem dX11_commonDivisor_1 : decode cX11_commonDivisor 1 = .ok (.istore_n 2, 1) := by decide +kernel
theorem dX11_commonDivisor_2 : decode cX11_commonDivisor 2 = .ok (.iconst 1, 1) := by decide +kernel
theorem dX11_commonDivisor_3 : decode cX11_commonDivisor 3 = .ok (.istore_n 3, 1) := by decide +kernel
theorem dX11_commonDivisor_4 : decode cX11_commonDivisor 4 = .ok (.iload_n 3, 1) := by decide +kernel
theorem dX11_commonDivisor_5 : decode cX11_commonDivisor 5 = .ok (.iload_n 1, 1) := by decide +kernel
theorem dX11_commonDivisor_6 : decode cX11_commonDivisor 6 = .ok (.if_icmp .gt 23, 3) := by decide +kernel
theorem dX11_commonDivisor_9 : decode cX11_commonDivisor 9 = .ok (.iload_n 0, 1) := by decide +kernel
theorem dX11_commonDivisor_10 : decode cX11_commonDivisor 10 = .ok (.iload_n 3, 1) := by decide +kernel
theorem dX11_commonDivisor_11 : decode cX11_commonDivisor 11 = .ok (.irem, 1) := by decide +kernel
theorem dX11_commonDivisor_12 : decode cX11_commonDivisor 12 = .ok (.ifCond .ne 11, 3) := by decide +kernel
theorem dX11_commonDivisor_15 : decode cX11_commonDivisor 15 = .ok (.iload_n 1, 1) := by decide +kernel
theorem dX11_commonDivisor_16 : decode cX11_commonDivisor 16 = .ok (.iload_n 3, 1) := by decide +kernel
theorem dX11_commonDivisor_17 : decode cX11_commonDivisor 17 = .ok (.irem, 1) := by decide +kernel
theorem dX11_commonDivisor_18 : decode cX11_commonDivisor 18 = .ok (.ifCond .ne 5, 3) := by decide +kernel
theorem dX11_commonDivisor_21 : decode cX11_commonDivisor 21 = .ok (.iload_n 3, 1) := by decide +kernel
theorem dX11_commonDivisor_22 : decode cX11_commonDivisor 22 = .ok (.istore_n 2, 1) := by decide +kernel
theorem dX11_commonDivisor_23 : decode cX11_commonDivisor 23 = .ok (.iinc 3 1, 3) := by decide +kernel
theorem dX11_commonDivisor_26 : decode cX11_commonDivisor 26 = .ok (.goto (-22), 3) := by decide +kernel
theorem dX11_commonDivisor_29 : decode cX11_commonDivisor 29 = .ok (.iload_n 2, 1) := by decide +kernel
theorem dX11_commonDivisor_30 : decode cX11_commonDivisor 30 = .ok (.ireturn, 1) := by decide +kernel
theorem dX11_then_0 : decode cX11_then 0 = .ok (.aload_n 0, 1) := by decide +kernel
theorem dX11_then_1 : decode cX11_then 1 = .ok (.iload_n 1, 1) := by decide +kernel
theorem dX11_then_2 : decode cX11_then 2 = .ok (.invokevirtual 192, 3) := by decide +kernel
theorem dX11_then_5 : decode cX11_then 5 = .ok (.ifCond .eq 21, 3) := by decide +kernel
theorem dX11_then_8 : decode cX11_then 8 = .ok (.iload_n 2, 1) := by decide +kernel
theorem dX11_then_9 : decode cX11_then 9 = .ok (.iconst 0, 1) := by decide +kernel
theorem dX11_then_10 : decode cX11_then 10 = .ok (.aload_n 0, 1) := by decide +kernel
theorem dX11_then_11 : decode cX11_then 11 = .ok (.getfield 38, 3) := by decide +kernel
theorem dX11_then_14 : decode cX11_then 14 = .ok (.getfield 142, 3) := by decide +kernel
theorem dX11_then_17 : decode cX11_then 17 = .ok (.getfield 165, 3) := by decide +kernel
theorem dX11_then_20 : decode cX11_then 20 = .ok (.invokestatic 285, 3) := by decide +kernel
theorem dX11_then_23 : decode cX11_then 23 = .ok (.ifCond .ne 6, 3) := by decide +kernel
theorem dX11_then_26 : decode cX11_then 26 = .ok (.bipush (-2), 2) := by decide +kernel
theorem dX11_then_28 : decode cX11_then 28 = .ok (.ireturn, 1) := by decide +kernel
theorem dX11_then_29 : decode cX11_then 29 = .ok (.aload_n 0, 1) := by decide +kernel
theorem dX11_then_30 : decode cX11_then 30 = .ok (.iload_n 1, 1) := by decide +kernel
theorem dX11_then_31 : decode cX11_then 31 = .ok (.invokevirtual 208, 3) := by decide +kernel
theorem dX11_then_34 : decode cX11_then 34 = .ok (.ifCond .eq 5, 3) := by decide +kernel
theorem dX11_then_37 : decode cX11_then 37 = .ok (.iconst (-1), 1) := by decide +kernel
theorem dX11_then_38 : decode cX11_then 38 = .ok (.ireturn, 1) := by decide +kernel
theorem dX11_then_39 : decode cX11_then 39 = .ok (.aload_n 0, 1) := by decide +kernel
theorem dX11_then_40 : decode cX11_then 40 = .ok (.getfield 38, 3) := by decide +kernel
theorem dX11_then_43 : decode cX11_then 43 = .ok (.getfield 116, 3) := by decide +kernel
theorem dX11_then_46 : decode cX11_then 46 = .ok (.getfield 198, 3) := by decide +kernel
theorem dX11_then_49 : decode cX11_then 49 = .ok (.iload_n 1, 1) := by decide +kernel
theorem dX11_then_50 : decode cX11_then 50 = .ok (.iaload, 1) := by decide +kernel
theorem dX11_then_51 : decode cX11_then 51 = .ok (.istore_n 3, 1) := by decide +kernel
theorem dX11_then_52 : decode cX11_then 52 = .ok (.iconst 0, 1) := by decide +kernel
theorem dX11_then_53 : decode cX11_then 53 = .ok (.istore 4, 2) := by decide +kernel
theorem dX11_then_55 : decode cX11_then 55 = .ok (.iconst 0, 1) := by decide +kernel
theorem dX11_then_56 : decode cX11_then 56 = .ok (.istore 5, 2) := by decide +kernel
theorem dX11_then_58 : decode cX11_then 58 = .ok (.iload 5, 2) := by decide +kernel
theorem dX11_then_60 : decode cX11_then 60 = .ok (.iload_n 3, 1) := by decide +kernel
theorem dX11_then_61 : decode cX11_then 61 = .ok (.if_icmp .ge 62, 3) := by decide +kernel
theorem dX11_then_64 : decode cX11_then 64 = .ok (.aload_n 0, 1) := by decide +kernel
theorem dX11_then_65 : decode cX11_then 65 = .ok (.getfield 38, 3) := by decide +kernel
theorem dX11_then_68 : decode cX11_then 68 = .ok (.getfield 142, 3) := by decide +kernel
theorem dX11_then_71 : decode cX11_then 71 = .ok (.getfield 152, 3) := by decide +kernel
theorem dX11_then_74 : decode cX11_then 74 = .ok (.aload_n 0, 1) := by decide +kernel
theorem dX11_then_75 : decode cX11_then 75 = .ok (.getfield 38, 3) := by decide +kernel
theorem dX11_then_78 : decode cX11_then 78 = .ok (.getfield 116, 3) := by decide +kernel
theorem dX11_then_81 : decode cX11_then 81 = .ok (.getfield 195, 3) := by decide +kernel
theorem dX11_then_84 : decode cX11_then 84 = .ok (.iload_n 1, 1) := by decide +kernel
theorem dX11_then_85 : decode cX11_then 85 = .ok (.iaload, 1) := by decide +kernel
theorem dX11_then_86 : decode cX11_then 86 = .ok (.iload 5, 2) := by decide +kernel
theorem dX11_then_88 : decode cX11_then 88 = .ok (.iadd, 1) := by decide +kernel
theorem dX11_then_89 : decode cX11_then 89 = .ok (.laload, 1) := by decide +kernel
theorem dX11_then_90 : decode cX11_then 90 = .ok (.iload_n 2, 1) := by decide +kernel
theorem dX11_then_91 : decode cX11_then 91 = .ok (.invokestatic 371, 3) := by decide +kernel
theorem dX11_then_94 : decode cX11_then 94 = .ok (.lstore 6, 2) := by decide +kernel
theorem dX11_then_96 : decode cX11_then 96 = .ok (.iload 4, 2) := by decide +kernel
theorem dX11_then_98 : decode cX11_then 98 = .ok (.aload_n 0, 1) := by decide +kernel
theorem dX11_then_99 : decode cX11_then 99 = .ok (.getfield 38, 3) := by decide +kernel
theorem dX11_then_102 : decode cX11_then 102 = .ok (.getfield 116, 3) := by decide +kernel
theorem dX11_then_105 : decode cX11_then 105 = .ok (.lload 6, 2) := by decide +kernel
theorem dX11_then_107 : decode cX11_then 107 = .ok (.iload_n 2, 1) := by decide +kernel
theorem dX11_then_108 : decode cX11_then 108 = .ok (.invokevirtual 168, 3) := by decide +kernel
theorem dX11_then_111 : decode cX11_then 111 = .ok (.invokestatic 331, 3) := by decide +kernel
theorem dX11_then_114 : decode cX11_then 114 = .ok (.iadd, 1) := by decide +kernel
theorem dX11_then_115 : decode cX11_then 115 = .ok (.istore 4, 2) := by decide +kernel
theorem dX11_then_117 : decode cX11_then 117 = .ok (.iinc 5 1, 3) := by decide +kernel
theorem dX11_then_120 : decode cX11_then 120 = .ok (.goto (-62), 3) := by decide +kernel
theorem dX11_then_123 : decode cX11_then 123 = .ok (.iload 4, 2) := by decide +kernel
theorem dX11_then_125 : decode cX11_then 125 = .ok (.iload_n 3, 1) := by decide +kernel
theorem dX11_then_126 : decode cX11_then 126 = .ok (.aload_n 0, 1) := by decide +kernel
theorem dX11_then_127 : decode cX11_then 127 = .ok (.getfield 38, 3) := by decide +kernel
theorem dX11_then_130 : decode cX11_then 130 = .ok (.getfield 116, 3) := by decide +kernel
theorem dX11_then_133 : decode cX11_then 133 = .ok (.getfield 248, 3) := by decide +kernel
theorem dX11_then_136 : decode cX11_then 136 = .ok (.invokestatic 334, 3) := by decide +kernel
theorem dX11_then_139 : decode cX11_then 139 = .ok (.ireturn, 1) := by decide +kernel
theorem dX11_byPart_0 : decode cX11_byPart 0 = .ok (.aload_n 0, 1) := by decide +kernel
theorem dX11_byPart_1 : decode cX11_byPart 1 = .ok (.iload_n 1, 1) := by decide +kernel
theorem dX11_byPart_2 : decode cX11_byPart 2 = .ok (.invokevirtual 192, 3) := by decide +kernel
theorem dX11_byPart_5 : decode cX11_byPart 5 = .ok (.ifCond .eq 13, 3) := by decide +kernel
theorem dX11_byPart_8 : decode cX11_byPart 8 = .ok (.iload_n 2, 1) := by decide +kernel
theorem dX11_byPart_9 : decode cX11_byPart 9 = .ok (.iconst 1, 1) := by decide +kernel
theorem dX11_byPart_10 : decode cX11_byPart 10 = .ok (.bipush 100, 2) := by decide +kernel
theorem dX11_byPart_12 : decode cX11_byPart 12 = .ok (.invokestatic 285, 3) := by decide +kernel
theorem dX11_byPart_15 : decode cX11_byPart 15 = .ok (.ifCond .ne 6, 3) := by decide +kernel
theorem dX11_byPart_18 : decode cX11_byPart 18 = .ok (.bipush (-2), 2) := by decide +kernel
theorem dX11_byPart_20 : decode cX11_byPart 20 = .ok (.ireturn, 1) := by decide +kernel
theorem dX11_byPart_21 : decode cX11_byPart 21 = .ok (.aload_n 0, 1) := by decide +kernel
theorem dX11_byPart_22 : decode cX11_byPart 22 = .ok (.getfield 38, 3) := by decide +kernel
theorem dX11_byPart_25 : decode cX11_byPart 25 = .ok (.getfield 116, 3) := by decide +kernel
theorem dX11_byPart_28 : decode cX11_byPart 28 = .ok (.aload_n 0, 1) := by decide +kernel
theorem dX11_byPart_29 : decode cX11_byPart 29 = .ok (.getfield 38, 3) := by decide +kernel
theorem dX11_byPart_32 : decode cX11_byPart 32 = .ok (.getfield 142, 3) := by decide +kernel
theorem dX11_byPart_35 : decode cX11_byPart 35 = .ok (.iload_n 1, 1) := by decide +kernel
theorem dX11_byPart_36 : decode cX11_byPart 36 = .ok (.invokevirtual 362, 3) := by decide +kernel
theorem dX11_byPart_39 : decode cX11_byPart 39 = .ok (.aload_n 0, 1) := by decide +kernel
theorem dX11_byPart_40 : decode cX11_byPart 40 = .ok (.getfield 38, 3) := by decide +kernel
theorem dX11_byPart_43 : decode cX11_byPart 43 = .ok (.getfield 116, 3) := by decide +kernel
theorem dX11_byPart_46 : decode cX11_byPart 46 = .ok (.getfield 198, 3) := by decide +kernel
theorem dX11_byPart_49 : decode cX11_byPart 49 = .ok (.iload_n 1, 1) := by decide +kernel
theorem dX11_byPart_50 : decode cX11_byPart 50 = .ok (.iaload, 1) := by decide +kernel
theorem dX11_byPart_51 : decode cX11_byPart 51 = .ok (.iload_n 2, 1) := by decide +kernel
theorem dX11_byPart_52 : decode cX11_byPart 52 = .ok (.invokestatic 334, 3) := by decide +kernel
theorem dX11_byPart_55 : decode cX11_byPart 55 = .ok (.ireturn, 1) := by decide +kernel
theorem dX11_log_0 : decode cX11_log 0 = .ok (.iload_n 1, 1) := by decide +kernel
theorem dX11_log_1 : decode cX11_log 1 = .ok (.iconst (-1), 1) := by decide +kernel
theorem dX11_log_2 : decode cX11_log 2 = .ok (.if_icmp .ne 13, 3) := by decide +kernel
theorem dX11_log_5 : decode cX11_log 5 = .ok (.aload_n 0, 1) := by decide +kernel
theorem dX11_log_6 : decode cX11_log 6 = .ok (.getfield 38, 3) := by decide +kernel
theorem dX11_log_9 : decode cX11_log 9 = .ok (.iconst 0, 1) := by decide +kernel
theorem dX11_log_10 : decode cX11_log 10 = .ok (.putfield 233, 3) := by decide +kernel
theorem dX11_log_13 : decode cX11_log 13 = .ok (.iconst 0, 1) := by decide +kernel
theorem dX11_log_14 : decode cX11_log 14 = .ok (.ireturn, 1) := by decide +kernel
theorem dX11_log_15 : decode cX11_log 15 = .ok (.iload_n 1, 1) := by decide +kernel
theorem dX11_log_16 : decode cX11_log 16 = .ok (.iconst 0, 1) := by decide +kernel
theorem dX11_log_17 : decode cX11_log 17 = .ok (.bipush 99, 2) := by decide +kernel
theorem dX11_log_19 : decode cX11_log 19 = .ok (.invokestatic 285, 3) := by decide +kernel
theorem dX11_log_22 : decode cX11_log 22 = .ok (.ifCond .eq 24, 3) := by decide +kernel
theorem dX11_log_25 : decode cX11_log 25 = .ok (.aload_n 0, 1) := by decide +kernel
theorem dX11_log_26 : decode cX11_log 26 = .ok (.iload_n 2, 1) := by decide +kernel
theorem dX11_log_27 : decode cX11_log 27 = .ok (.invokevirtual 192, 3) := by decide +kernel
theorem dX11_log_30 : decode cX11_log 30 = .ok (.ifCond .eq 16, 3) := by decide +kernel
theorem dX11_log_33 : decode cX11_log 33 = .ok (.iload_n 3, 1) := by decide +kernel
theorem dX11_log_34 : decode cX11_log 34 = .ok (.iconst (-1), 1) := by decide +kernel
theorem dX11_log_35 : decode cX11_log 35 = .ok (.if_icmp .eq 14, 3) := by decide +kernel
theorem dX11_log_38 : decode cX11_log 38 = .ok (.aload_n 0, 1) := by decide +kernel
theorem dX11_log_39 : decode cX11_log 39 = .ok (.iload_n 3, 1) := by decide +kernel
theorem dX11_log_40 : decode cX11_log 40 = .ok (.invokevirtual 183, 3) := by decide +kernel
theorem dX11_log_43 : decode cX11_log 43 = .ok (.ifCond .ne 6, 3) := by decide +kernel
theorem dX11_log_46 : decode cX11_log 46 = .ok (.bipush (-2), 2) := by decide +kernel
theorem dX11_log_48 : decode cX11_log 48 = .ok (.ireturn, 1) := by decide +kernel
theorem dX11_log_49 : decode cX11_log 49 = .ok (.aload_n 0, 1) := by decide +kernel
theorem dX11_log_50 : decode cX11_log 50 = .ok (.getfield 38, 3) := by decide +kernel
theorem dX11_log_53 : decode cX11_log 53 = .ok (.getfield 233, 3) := by decide +kernel
theorem dX11_log_56 : decode cX11_log 56 = .ok (.bipush 10, 2) := by decide +kernel
theorem dX11_log_58 : decode cX11_log 58 = .ok (.if_icmp .lt 6, 3) := by decide +kernel
theorem dX11_log_61 : decode cX11_log 61 = .ok (.bipush (-2), 2) := by decide +kernel
theorem dX11_log_63 : decode cX11_log 63 = .ok (.ireturn, 1) := by decide +kernel
theorem dX11_log_64 : decode cX11_log 64 = .ok (.aload_n 0, 1) := by decide +kernel
theorem dX11_log_65 : decode cX11_log 65 = .ok (.getfield 38, 3) := by decide +kernel
theorem dX11_log_68 : decode cX11_log 68 = .ok (.getfield 374, 3) := by decide +kernel
theorem dX11_log_71 : decode cX11_log 71 = .ok (.aload_n 0, 1) := by decide +kernel
theorem dX11_log_72 : decode cX11_log 72 = .ok (.getfield 38, 3) := by decide +kernel
theorem dX11_log_75 : decode cX11_log 75 = .ok (.getfield 233, 3) := by decide +kernel
theorem dX11_log_78 : decode cX11_log 78 = .ok (.iload_n 1, 1) := by decide +kernel
theorem dX11_log_79 : decode cX11_log 79 = .ok (.iastore, 1) := by decide +kernel
theorem dX11_log_80 : decode cX11_log 80 = .ok (.aload_n 0, 1) := by decide +kernel
theorem dX11_log_81 : decode cX11_log 81 = .ok (.getfield 38, 3) := by decide +kernel
theorem dX11_log_84 : decode cX11_log 84 = .ok (.getfield 377, 3) := by decide +kernel
theorem dX11_log_87 : decode cX11_log 87 = .ok (.aload_n 0, 1) := by decide +kernel
theorem dX11_log_88 : decode cX11_log 88 = .ok (.getfield 38, 3) := by decide +kernel
theorem dX11_log_91 : decode cX11_log 91 = .ok (.getfield 233, 3) := by decide +kernel
theorem dX11_log_94 : decode cX11_log 94 = .ok (.iload_n 2, 1) := by decide +kernel
theorem dX11_log_95 : decode cX11_log 95 = .ok (.iastore, 1) := by decide +kernel
theorem dX11_log_96 : decode cX11_log 96 = .ok (.aload_n 0, 1) := by decide +kernel
theorem dX11_log_97 : decode cX11_log 97 = .ok (.getfield 38, 3) := by decide +kernel
theorem dX11_log_100 : decode cX11_log 100 = .ok (.getfield 380, 3) := by decide +kernel
theorem dX11_log_103 : decode cX11_log 103 = .ok (.aload_n 0, 1) := by decide +kernel
theorem dX11_log_104 : decode cX11_log 104 = .ok (.getfield 38, 3) := by decide +kernel
theorem dX11_log_107 : decode cX11_log 107 = .ok (.getfield 233, 3) := by decide +kernel
theorem dX11_log_110 : decode cX11_log 110 = .ok (.iload_n 3, 1) := by decide +kernel
theorem dX11_log_111 : decode cX11_log 111 = .ok (.iastore, 1) := by decide +kernel
theorem dX11_log_112 : decode cX11_log 112 = .ok (.aload_n 0, 1) := by decide +kernel
theorem dX11_log_113 : decode cX11_log 113 = .ok (.getfield 38, 3) := by decide +kernel
theorem dX11_log_116 : decode cX11_log 116 = .ok (.dup, 1) := by decide +kernel
theorem dX11_log_117 : decode cX11_log 117 = .ok (.getfield 233, 3) := by decide +kernel
theorem dX11_log_120 : decode cX11_log 120 = .ok (.iconst 1, 1) := by decide +kernel
theorem dX11_log_121 : decode cX11_log 121 = .ok (.iadd, 1) := by decide +kernel
theorem dX11_log_122 : decode cX11_log 122 = .ok (.putfield 233, 3) := by decide +kernel
theorem dX11_log_125 : decode cX11_log 125 = .ok (.aload_n 0, 1) := by decide +kernel
theorem dX11_log_126 : decode cX11_log 126 = .ok (.getfield 38, 3) := by decide +kernel
theorem dX11_log_129 : decode cX11_log 129 = .ok (.getfield 233, 3) := by decide +kernel
theorem dX11_log_132 : decode cX11_log 132 = .ok (.ireturn, 1) := by decide +kernel
theorem dX11_ruled_0 : decode cX11_ruled 0 = .ok (.aload_n 0, 1) := by decide +kernel
theorem dX11_ruled_1 : decode cX11_ruled 1 = .ok (.getfield 38, 3) := by decide +kernel
theorem dX11_ruled_4 : decode cX11_ruled 4 = .ok (.getfield 116, 3) := by decide +kernel
theorem dX11_ruled_7 : decode cX11_ruled 7 = .ok (.getfield 219, 3) := by decide +kernel
theorem dX11_ruled_10 : decode cX11_ruled 10 = .ok (.ifCond .eq 12, 3) := by decide +kernel
theorem dX11_ruled_13 : decode cX11_ruled 13 = .ok (.iload_n 1, 1) := by decide +kernel
theorem dX11_ruled_14 : decode cX11_ruled 14 = .ok (.iconst 0, 1) := by decide +kernel
theorem dX11_ruled_15 : decode cX11_ruled 15 = .ok (.iconst 1, 1) := by decide +kernel
theorem dX11_ruled_16 : decode cX11_ruled 16 = .ok (.invokestatic 285, 3) := by decide +kernel
theorem dX11_ruled_19 : decode cX11_ruled 19 = .ok (.ifCond .ne 6, 3) := by decide +kernel
theorem dX11_ruled_22 : decode cX11_ruled 22 = .ok (.bipush (-3), 2) := by decide +kernel
theorem dX11_ruled_24 : decode cX11_ruled 24 = .ok (.ireturn, 1) := by decide +kernel
theorem dX11_ruled_25 : decode cX11_ruled 25 = .ok (.iconst 0, 1) := by decide +kernel
theorem dX11_ruled_26 : decode cX11_ruled 26 = .ok (.istore_n 2, 1) := by decide +kernel
theorem dX11_ruled_27 : decode cX11_ruled 27 = .ok (.bipush (-2), 2) := by decide +kernel
theorem dX11_ruled_29 : decode cX11_ruled 29 = .ok (.istore_n 3, 1) := by decide +kernel
theorem dX11_ruled_30 : decode cX11_ruled 30 = .ok (.iconst (-1), 1) := by decide +kernel
theorem dX11_ruled_31 : decode cX11_ruled 31 = .ok (.istore 4, 2) := by decide +kernel
theorem dX11_ruled_33 : decode cX11_ruled 33 = .ok (.iload 4, 2) := by decide +kernel
theorem dX11_ruled_35 : decode cX11_ruled 35 = .ok (.aload_n 0, 1) := by decide +kernel
theorem dX11_ruled_36 : decode cX11_ruled 36 = .ok (.getfield 88, 3) := by decide +kernel
theorem dX11_ruled_39 : decode cX11_ruled 39 = .ok (.if_icmp .ge 34, 3) := by decide +kernel
theorem dX11_ruled_42 : decode cX11_ruled 42 = .ok (.aload_n 0, 1) := by decide +kernel
theorem dX11_ruled_43 : decode cX11_ruled 43 = .ok (.iload 4, 2) := by decide +kernel
theorem dX11_ruled_45 : decode cX11_ruled 45 = .ok (.iconst (-1), 1) := by decide +kernel
theorem dX11_ruled_46 : decode cX11_ruled 46 = .ok (.iconst 0, 1) := by decide +kernel
theorem dX11_ruled_47 : decode cX11_ruled 47 = .ok (.invokevirtual 383, 3) := by decide +kernel
theorem dX11_ruled_50 : decode cX11_ruled 50 = .ok (.ifCond .eq 17, 3) := by decide +kernel
theorem dX11_ruled_53 : decode cX11_ruled 53 = .ok (.iload_n 2, 1) := by decide +kernel
theorem dX11_ruled_54 : decode cX11_ruled 54 = .ok (.ifCond .ne 8, 3) := by decide +kernel
theorem dX11_ruled_57 : decode cX11_ruled 57 = .ok (.iload 4, 2) := by decide +kernel
theorem dX11_ruled_59 : decode cX11_ruled 59 = .ok (.goto 4, 3) := by decide +kernel
theorem dX11_ruled_62 : decode cX11_ruled 62 = .ok (.iload_n 3, 1) := by decide +kernel
theorem dX11_ruled_63 : decode cX11_ruled 63 = .ok (.istore_n 3, 1) := by decide +kernel
theorem dX11_ruled_64 : decode cX11_ruled 64 = .ok (.iinc 2 1, 3) := by decide +kernel
theorem dX11_ruled_67 : decode cX11_ruled 67 = .ok (.iinc 4 1, 3) := by decide +kernel
theorem dX11_ruled_70 : decode cX11_ruled 70 = .ok (.goto (-37), 3) := by decide +kernel
theorem dX11_ruled_73 : decode cX11_ruled 73 = .ok (.iload_n 1, 1) := by decide +kernel
theorem dX11_ruled_74 : decode cX11_ruled 74 = .ok (.ifCond .ne 7, 3) := by decide +kernel
theorem dX11_ruled_77 : decode cX11_ruled 77 = .ok (.iload_n 2, 1) := by decide +kernel
theorem dX11_ruled_78 : decode cX11_ruled 78 = .ok (.goto 4, 3) := by decide +kernel
theorem dX11_ruled_81 : decode cX11_ruled 81 = .ok (.iload_n 3, 1) := by decide +kernel
theorem dX11_ruled_82 : decode cX11_ruled 82 = .ok (.ireturn, 1) := by decide +kernel
theorem dX11_look_0 : decode cX11_look 0 = .ok (.aload_n 0, 1) := by decide +kernel
theorem dX11_look_1 : decode cX11_look 1 = .ok (.getfield 38, 3) := by decide +kernel
theorem dX11_look_4 : decode cX11_look 4 = .ok (.getfield 116, 3) := by decide +kernel
theorem dX11_look_7 : decode cX11_look 7 = .ok (.getfield 219, 3) := by decide +kernel
theorem dX11_look_10 : decode cX11_look 10 = .ok (.ifCond .eq 22, 3) := by decide +kernel
theorem dX11_look_13 : decode cX11_look 13 = .ok (.iload_n 1, 1) := by decide +kernel
theorem dX11_look_14 : decode cX11_look 14 = .ok (.iconst 0, 1) := by decide +kernel
theorem dX11_look_15 : decode cX11_look 15 = .ok (.bipush 99, 2) := by decide +kernel
theorem dX11_look_17 : decode cX11_look 17 = .ok (.invokestatic 285, 3) := by decide +kernel
theorem dX11_look_20 : decode cX11_look 20 = .ok (.ifCond .eq 12, 3) := by decide +kernel
theorem dX11_look_23 : decode cX11_look 23 = .ok (.iload_n 2, 1) := by decide +kernel
theorem dX11_look_24 : decode cX11_look 24 = .ok (.iconst 0, 1) := by decide +kernel
theorem dX11_look_25 : decode cX11_look 25 = .ok (.iconst 1, 1) := by decide +kernel
theorem dX11_look_26 : decode cX11_look 26 = .ok (.invokestatic 285, 3) := by decide +kernel
theorem dX11_look_29 : decode cX11_look 29 = .ok (.ifCond .ne 5, 3) := by decide +kernel
theorem dX11_look_32 : decode cX11_look 32 = .ok (.iconst (-1), 1) := by decide +kernel
theorem dX11_look_33 : decode cX11_look 33 = .ok (.ireturn, 1) := by decide +kernel
theorem dX11_look_34 : decode cX11_look 34 = .ok (.iconst 0, 1) := by decide +kernel
theorem dX11_look_35 : decode cX11_look 35 = .ok (.istore_n 3, 1) := by decide +kernel
theorem dX11_look_36 : decode cX11_look 36 = .ok (.iconst (-1), 1) := by decide +kernel
theorem dX11_look_37 : decode cX11_look 37 = .ok (.istore 4, 2) := by decide +kernel
theorem dX11_look_39 : decode cX11_look 39 = .ok (.iload 4, 2) := by decide +kernel
theorem dX11_look_41 : decode cX11_look 41 = .ok (.aload_n 0, 1) := by decide +kernel
theorem dX11_look_42 : decode cX11_look 42 = .ok (.getfield 88, 3) := by decide +kernel
theorem dX11_look_45 : decode cX11_look 45 = .ok (.if_icmp .ge 23, 3) := by decide +kernel
theorem dX11_look_48 : decode cX11_look 48 = .ok (.aload_n 0, 1) := by decide +kernel
theorem dX11_look_49 : decode cX11_look 49 = .ok (.iload 4, 2) := by decide +kernel
theorem dX11_look_51 : decode cX11_look 51 = .ok (.iload_n 1, 1) := by decide +kernel
theorem dX11_look_52 : decode cX11_look 52 = .ok (.iload_n 3, 1) := by decide +kernel
theorem dX11_look_53 : decode cX11_look 53 = .ok (.invokevirtual 383, 3) := by decide +kernel
theorem dX11_look_56 : decode cX11_look 56 = .ok (.ifCond .eq 6, 3) := by decide +kernel
theorem dX11_look_59 : decode cX11_look 59 = .ok (.iinc 3 1, 3) := by decide +kernel
theorem dX11_look_62 : decode cX11_look 62 = .ok (.iinc 4 1, 3) := by decide +kernel
theorem dX11_look_65 : decode cX11_look 65 = .ok (.goto (-26), 3) := by decide +kernel
theorem dX11_look_68 : decode cX11_look 68 = .ok (.iload_n 3, 1) := by decide +kernel
theorem dX11_look_69 : decode cX11_look 69 = .ok (.ifCond .ne 6, 3) := by decide +kernel
theorem dX11_look_72 : decode cX11_look 72 = .ok (.bipush (-2), 2) := by decide +kernel
theorem dX11_look_74 : decode cX11_look 74 = .ok (.ireturn, 1) := by decide +kernel
theorem dX11_look_75 : decode cX11_look 75 = .ok (.bipush (-2), 2) := by decide +kernel
theorem dX11_look_77 : decode cX11_look 77 = .ok (.istore 4, 2) := by decide +kernel
theorem dX11_look_79 : decode cX11_look 79 = .ok (.bipush 8, 2) := by decide +kernel
theorem dX11_look_81 : decode cX11_look 81 = .ok (.istore 5, 2) := by decide +kernel
theorem dX11_look_83 : decode cX11_look 83 = .ok (.iconst 0, 1) := by decide +kernel
theorem dX11_look_84 : decode cX11_look 84 = .ok (.istore 6, 2) := by decide +kernel
theorem dX11_look_86 : decode cX11_look 86 = .ok (.iload 6, 2) := by decide +kernel
theorem dX11_look_88 : decode cX11_look 88 = .ok (.aload_n 0, 1) := by decide +kernel
theorem dX11_look_89 : decode cX11_look 89 = .ok (.getfield 38, 3) := by decide +kernel
theorem dX11_look_92 : decode cX11_look 92 = .ok (.getfield 116, 3) := by decide +kernel
theorem dX11_look_95 : decode cX11_look 95 = .ok (.getfield 136, 3) := by decide +kernel
theorem dX11_look_98 : decode cX11_look 98 = .ok (.if_icmp .ge 33, 3) := by decide +kernel
theorem dX11_look_101 : decode cX11_look 101 = .ok (.aload_n 0, 1) := by decide +kernel
theorem dX11_look_102 : decode cX11_look 102 = .ok (.iload 6, 2) := by decide +kernel
theorem dX11_look_104 : decode cX11_look 104 = .ok (.iload_n 3, 1) := by decide +kernel
theorem dX11_look_105 : decode cX11_look 105 = .ok (.invokevirtual 386, 3) := by decide +kernel
theorem dX11_look_108 : decode cX11_look 108 = .ok (.istore 7, 2) := by decide +kernel
theorem dX11_look_110 : decode cX11_look 110 = .ok (.iload 7, 2) := by decide +kernel
theorem dX11_look_112 : decode cX11_look 112 = .ok (.iload 5, 2) := by decide +kernel
theorem dX11_look_114 : decode cX11_look 114 = .ok (.if_icmp .ge 11, 3) := by decide +kernel
theorem dX11_look_117 : decode cX11_look 117 = .ok (.iload 7, 2) := by decide +kernel
theorem dX11_look_119 : decode cX11_look 119 = .ok (.istore 5, 2) := by decide +kernel
theorem dX11_look_121 : decode cX11_look 121 = .ok (.iload 6, 2) := by decide +kernel
theorem dX11_look_123 : decode cX11_look 123 = .ok (.istore 4, 2) := by decide +kernel
theorem dX11_look_125 : decode cX11_look 125 = .ok (.iinc 6 1, 3) := by decide +kernel
theorem dX11_look_128 : decode cX11_look 128 = .ok (.goto (-42), 3) := by decide +kernel
theorem dX11_look_131 : decode cX11_look 131 = .ok (.iload 4, 2) := by decide +kernel
theorem dX11_look_133 : decode cX11_look 133 = .ok (.bipush (-2), 2) := by decide +kernel
theorem dX11_look_135 : decode cX11_look 135 = .ok (.if_icmp .eq 7, 3) := by decide +kernel
theorem dX11_look_138 : decode cX11_look 138 = .ok (.iload_n 2, 1) := by decide +kernel
theorem dX11_look_139 : decode cX11_look 139 = .ok (.ifCond .ne 8, 3) := by decide +kernel
theorem dX11_look_142 : decode cX11_look 142 = .ok (.iload 4, 2) := by decide +kernel
theorem dX11_look_144 : decode cX11_look 144 = .ok (.goto 5, 3) := by decide +kernel
theorem dX11_look_147 : decode cX11_look 147 = .ok (.iload 5, 2) := by decide +kernel
theorem dX11_look_149 : decode cX11_look 149 = .ok (.ireturn, 1) := by decide +kernel
theorem dX11_fits_0 : decode cX11_fits 0 = .ok (.iload_n 2, 1) := by decide +kernel
theorem dX11_fits_1 : decode cX11_fits 1 = .ok (.aload_n 0, 1) := by decide +kernel
theorem dX11_fits_2 : decode cX11_fits 2 = .ok (.getfield 38, 3) := by decide +kernel
theorem dX11_fits_5 : decode cX11_fits 5 = .ok (.invokevirtual 389, 3) := by decide +kernel
theorem dX11_fits_8 : decode cX11_fits 8 = .ok (.invokestatic 392, 3) := by decide +kernel
theorem dX11_fits_11 : decode cX11_fits 11 = .ok (.istore 4, 2) := by decide +kernel
theorem dX11_fits_13 : decode cX11_fits 13 = .ok (.aload_n 0, 1) := by decide +kernel
theorem dX11_fits_14 : decode cX11_fits 14 = .ok (.getfield 49, 3) := by decide +kernel
theorem dX11_fits_17 : decode cX11_fits 17 = .ok (.aload_n 0, 1) := by decide +kernel
theorem dX11_fits_18 : decode cX11_fits 18 = .ok (.getfield 38, 3) := by decide +kernel
theorem dX11_fits_21 : decode cX11_fits 21 = .ok (.getfield 116, 3) := by decide +kernel
theorem dX11_fits_24 : decode cX11_fits 24 = .ok (.getfield 397, 3) := by decide +kernel
theorem dX11_fits_27 : decode cX11_fits 27 = .ok (.invokevirtual 293, 3) := by decide +kernel
theorem dX11_fits_30 : decode cX11_fits 30 = .ok (.iconst 0, 1) := by decide +kernel
theorem dX11_fits_31 : decode cX11_fits 31 = .ok (.istore 5, 2) := by decide +kernel
theorem dX11_fits_33 : decode cX11_fits 33 = .ok (.iload 5, 2) := by decide +kernel
theorem dX11_fits_35 : decode cX11_fits 35 = .ok (.iload 4, 2) := by decide +kernel
theorem dX11_fits_37 : decode cX11_fits 37 = .ok (.if_icmp .gt 62, 3) := by decide +kernel
theorem dX11_fits_40 : decode cX11_fits 40 = .ok (.aload_n 0, 1) := by decide +kernel
theorem dX11_fits_41 : decode cX11_fits 41 = .ok (.iload 5, 2) := by decide +kernel
theorem dX11_fits_43 : decode cX11_fits 43 = .ok (.invokevirtual 400, 3) := by decide +kernel
theorem dX11_fits_46 : decode cX11_fits 46 = .ok (.ifCond .ne 5, 3) := by decide +kernel
theorem dX11_fits_49 : decode cX11_fits 49 = .ok (.iconst 0, 1) := by decide +kernel
theorem dX11_fits_50 : decode cX11_fits 50 = .ok (.ireturn, 1) := by decide +kernel
theorem dX11_fits_51 : decode cX11_fits 51 = .ok (.iload 5, 2) := by decide +kernel
theorem dX11_fits_53 : decode cX11_fits 53 = .ok (.iload_n 2, 1) := by decide +kernel
theorem dX11_fits_54 : decode cX11_fits 54 = .ok (.if_icmp .ne 8, 3) := by decide +kernel
theorem dX11_fits_57 : decode cX11_fits 57 = .ok (.aload_n 0, 1) := by decide +kernel
theorem dX11_fits_58 : decode cX11_fits 58 = .ok (.iload_n 3, 1) := by decide +kernel
theorem dX11_fits_59 : decode cX11_fits 59 = .ok (.invokevirtual 403, 3) := by decide +kernel
theorem dX11_fits_62 : decode cX11_fits 62 = .ok (.iload 5, 2) := by decide +kernel
theorem dX11_fits_64 : decode cX11_fits 64 = .ok (.iload 4, 2) := by decide +kernel
theorem dX11_fits_66 : decode cX11_fits 66 = .ok (.if_icmp .ge 27, 3) := by decide +kernel
theorem dX11_fits_69 : decode cX11_fits 69 = .ok (.aload_n 0, 1) := by decide +kernel
theorem dX11_fits_70 : decode cX11_fits 70 = .ok (.getfield 56, 3) := by decide +kernel
theorem dX11_fits_73 : decode cX11_fits 73 = .ok (.aload_n 0, 1) := by decide +kernel
theorem dX11_fits_74 : decode cX11_fits 74 = .ok (.getfield 38, 3) := by decide +kernel
theorem dX11_fits_77 : decode cX11_fits 77 = .ok (.getfield 116, 3) := by decide +kernel
theorem dX11_fits_80 : decode cX11_fits 80 = .ok (.aload_n 0, 1) := by decide +kernel
theorem dX11_fits_81 : decode cX11_fits 81 = .ok (.getfield 49, 3) := by decide +kernel
theorem dX11_fits_84 : decode cX11_fits 84 = .ok (.aload_n 0, 1) := by decide +kernel
theorem dX11_fits_85 : decode cX11_fits 85 = .ok (.iload_n 1, 1) := by decide +kernel
theorem dX11_fits_86 : decode cX11_fits 86 = .ok (.invokevirtual 260, 3) := by decide +kernel
theorem dX11_fits_89 : decode cX11_fits 89 = .ok (.invokevirtual 264, 3) := by decide +kernel
theorem dX11_fits_92 : decode cX11_fits 92 = .ok (.pop, 1) := by decide +kernel
theorem dX11_fits_93 : decode cX11_fits 93 = .ok (.iinc 5 1, 3) := by decide +kernel
theorem dX11_fits_96 : decode cX11_fits 96 = .ok (.goto (-63), 3) := by decide +kernel
theorem dX11_fits_99 : decode cX11_fits 99 = .ok (.iconst 1, 1) := by decide +kernel
theorem dX11_fits_100 : decode cX11_fits 100 = .ok (.ireturn, 1) := by decide +kernel
theorem dX11_logsHold_0 : decode cX11_logsHold 0 = .ok (.iconst 0, 1) := by decide +kernel
theorem dX11_logsHold_1 : decode cX11_logsHold 1 = .ok (.istore_n 2, 1) := by decide +kernel
theorem dX11_logsHold_2 : decode cX11_logsHold 2 = .ok (.iload_n 2, 1) := by decide +kernel
theorem dX11_logsHold_3 : decode cX11_logsHold 3 = .ok (.aload_n 0, 1) := by decide +kernel
theorem dX11_logsHold_4 : decode cX11_logsHold 4 = .ok (.getfield 38, 3) := by decide +kernel
theorem dX11_logsHold_7 : decode cX11_logsHold 7 = .ok (.getfield 233, 3) := by decide +kernel
theorem dX11_logsHold_10 : decode cX11_logsHold 10 = .ok (.if_icmp .ge 59, 3) := by decide +kernel
theorem dX11_logsHold_13 : decode cX11_logsHold 13 = .ok (.aload_n 0, 1) := by decide +kernel
theorem dX11_logsHold_14 : decode cX11_logsHold 14 = .ok (.getfield 38, 3) := by decide +kernel
theorem dX11_logsHold_17 : decode cX11_logsHold 17 = .ok (.getfield 374, 3) := by decide +kernel
theorem dX11_logsHold_20 : decode cX11_logsHold 20 = .ok (.iload_n 2, 1) := by decide +kernel
theorem dX11_logsHold_21 : decode cX11_logsHold 21 = .ok (.iaload, 1) := by decide +kernel
theorem dX11_logsHold_22 : decode cX11_logsHold 22 = .ok (.iload_n 1, 1) := by decide +kernel
theorem dX11_logsHold_23 : decode cX11_logsHold 23 = .ok (.if_icmp .ne 40, 3) := by decide +kernel
theorem dX11_logsHold_26 : decode cX11_logsHold 26 = .ok (.aload_n 0, 1) := by decide +kernel
theorem dX11_logsHold_27 : decode cX11_logsHold 27 = .ok (.getfield 38, 3) := by decide +kernel
theorem dX11_logsHold_30 : decode cX11_logsHold 30 = .ok (.getfield 116, 3) := by decide +kernel
theorem dX11_logsHold_33 : decode cX11_logsHold 33 = .ok (.aload_n 0, 1) := by decide +kernel
theorem dX11_logsHold_34 : decode cX11_logsHold 34 = .ok (.getfield 49, 3) := by decide +kernel
theorem dX11_logsHold_37 : decode cX11_logsHold 37 = .ok (.aload_n 0, 1) := by decide +kernel
theorem dX11_logsHold_38 : decode cX11_logsHold 38 = .ok (.getfield 38, 3) := by decide +kernel
theorem dX11_logsHold_41 : decode cX11_logsHold 41 = .ok (.getfield 377, 3) := by decide +kernel
theorem dX11_logsHold_44 : decode cX11_logsHold 44 = .ok (.iload_n 2, 1) := by decide +kernel
theorem dX11_logsHold_45 : decode cX11_logsHold 45 = .ok (.iaload, 1) := by decide +kernel
theorem dX11_logsHold_46 : decode cX11_logsHold 46 = .ok (.invokevirtual 204, 3) := by decide +kernel
theorem dX11_logsHold_49 : decode cX11_logsHold 49 = .ok (.aload_n 0, 1) := by decide +kernel
theorem dX11_logsHold_50 : decode cX11_logsHold 50 = .ok (.getfield 38, 3) := by decide +kernel
theorem dX11_logsHold_53 : decode cX11_logsHold 53 = .ok (.getfield 380, 3) := by decide +kernel
theorem dX11_logsHold_56 : decode cX11_logsHold 56 = .ok (.iload_n 2, 1) := by decide +kernel
theorem dX11_logsHold_57 : decode cX11_logsHold 57 = .ok (.iaload, 1) := by decide +kernel
theorem dX11_logsHold_58 : decode cX11_logsHold 58 = .ok (.if_icmp .eq 5, 3) := by decide +kernel
theorem dX11_logsHold_61 : decode cX11_logsHold 61 = .ok (.iconst 0, 1) := by decide +kernel
theorem dX11_logsHold_62 : decode cX11_logsHold 62 = .ok (.ireturn, 1) := by decide +kernel
theorem dX11_logsHold_63 : decode cX11_logsHold 63 = .ok (.iinc 2 1, 3) := by decide +kernel
theorem dX11_logsHold_66 : decode cX11_logsHold 66 = .ok (.goto (-64), 3) := by decide +kernel
theorem dX11_logsHold_69 : decode cX11_logsHold 69 = .ok (.iconst 1, 1) := by decide +kernel
theorem dX11_logsHold_70 : decode cX11_logsHold 70 = .ok (.ireturn, 1) := by decide +kernel
theorem dX11_noteSeen_0 : decode cX11_noteSeen 0 = .ok (.iload_n 1, 1) := by decide +kernel
theorem dX11_noteSeen_1 : decode cX11_noteSeen 1 = .ok (.ifCond .lt 9, 3) := by decide +kernel
theorem dX11_noteSeen_4 : decode cX11_noteSeen 4 = .ok (.iload_n 1, 1) := by decide +kernel
theorem dX11_noteSeen_5 : decode cX11_noteSeen 5 = .ok (.bipush 6, 2) := by decide +kernel
theorem dX11_noteSeen_7 : decode cX11_noteSeen 7 = .ok (.if_icmp .le 4, 3) := by decide +kernel
theorem dX11_noteSeen_10 : decode cX11_noteSeen 10 = .ok (.return_, 1) := by decide +kernel
theorem dX11_noteSeen_11 : decode cX11_noteSeen 11 = .ok (.iconst 0, 1) := by decide +kernel
theorem dX11_noteSeen_12 : decode cX11_noteSeen 12 = .ok (.istore_n 2, 1) := by decide +kernel
theorem dX11_noteSeen_13 : decode cX11_noteSeen 13 = .ok (.iload_n 2, 1) := by decide +kernel
theorem dX11_noteSeen_14 : decode cX11_noteSeen 14 = .ok (.aload_n 0, 1) := by decide +kernel
theorem dX11_noteSeen_15 : decode cX11_noteSeen 15 = .ok (.getfield 38, 3) := by decide +kernel
theorem dX11_noteSeen_18 : decode cX11_noteSeen 18 = .ok (.getfield 116, 3) := by decide +kernel
theorem dX11_noteSeen_21 : decode cX11_noteSeen 21 = .ok (.getfield 136, 3) := by decide +kernel
theorem dX11_noteSeen_24 : decode cX11_noteSeen 24 = .ok (.if_icmp .ge 34, 3) := by decide +kernel
theorem dX11_noteSeen_27 : decode cX11_noteSeen 27 = .ok (.aload_n 0, 1) := by decide +kernel
theorem dX11_noteSeen_28 : decode cX11_noteSeen 28 = .ok (.getfield 81, 3) := by decide +kernel
theorem dX11_noteSeen_31 : decode cX11_noteSeen 31 = .ok (.iload_n 1, 1) := by decide +kernel
theorem dX11_noteSeen_32 : decode cX11_noteSeen 32 = .ok (.iconst 4, 1) := by decide +kernel
theorem dX11_noteSeen_33 : decode cX11_noteSeen 33 = .ok (.imul, 1) := by decide +kernel
theorem dX11_noteSeen_34 : decode cX11_noteSeen 34 = .ok (.iload_n 2, 1) := by decide +kernel
theorem dX11_noteSeen_35 : decode cX11_noteSeen 35 = .ok (.iadd, 1) := by decide +kernel
theorem dX11_noteSeen_36 : decode cX11_noteSeen 36 = .ok (.aload_n 0, 1) := by decide +kernel
theorem dX11_noteSeen_37 : decode cX11_noteSeen 37 = .ok (.getfield 38, 3) := by decide +kernel
theorem dX11_noteSeen_40 : decode cX11_noteSeen 40 = .ok (.getfield 116, 3) := by decide +kernel
theorem dX11_noteSeen_43 : decode cX11_noteSeen 43 = .ok (.aload_n 0, 1) := by decide +kernel
theorem dX11_noteSeen_44 : decode cX11_noteSeen 44 = .ok (.getfield 49, 3) := by decide +kernel
theorem dX11_noteSeen_47 : decode cX11_noteSeen 47 = .ok (.iload_n 2, 1) := by decide +kernel
theorem dX11_noteSeen_48 : decode cX11_noteSeen 48 = .ok (.invokevirtual 204, 3) := by decide +kernel
theorem dX11_noteSeen_51 : decode cX11_noteSeen 51 = .ok (.iastore, 1) := by decide +kernel
theorem dX11_noteSeen_52 : decode cX11_noteSeen 52 = .ok (.iinc 2 1, 3) := by decide +kernel
theorem dX11_noteSeen_55 : decode cX11_noteSeen 55 = .ok (.goto (-42), 3) := by decide +kernel
theorem dX11_noteSeen_58 : decode cX11_noteSeen 58 = .ok (.return_, 1) := by decide +kernel
theorem dX11_mostAlike_0 : decode cX11_mostAlike 0 = .ok (.iconst 0, 1) := by decide +kernel
theorem dX11_mostAlike_1 : decode cX11_mostAlike 1 = .ok (.istore_n 3, 1) := by decide +kernel
theorem dX11_mostAlike_2 : decode cX11_mostAlike 2 = .ok (.iconst 0, 1) := by decide +kernel
theorem dX11_mostAlike_3 : decode cX11_mostAlike 3 = .ok (.istore 4, 2) := by decide +kernel
theorem dX11_mostAlike_5 : decode cX11_mostAlike 5 = .ok (.iload 4, 2) := by decide +kernel
theorem dX11_mostAlike_7 : decode cX11_mostAlike 7 = .ok (.iload_n 2, 1) := by decide +kernel
theorem dX11_mostAlike_8 : decode cX11_mostAlike 8 = .ok (.if_icmp .ge 62, 3) := by decide +kernel
theorem dX11_mostAlike_11 : decode cX11_mostAlike 11 = .ok (.iconst 0, 1) := by decide +kernel
theorem dX11_mostAlike_12 : decode cX11_mostAlike 12 = .ok (.istore 5, 2) := by decide +kernel
theorem dX11_mostAlike_14 : decode cX11_mostAlike 14 = .ok (.iconst 0, 1) := by decide +kernel
theorem dX11_mostAlike_15 : decode cX11_mostAlike 15 = .ok (.istore 6, 2) := by decide +kernel
theorem dX11_mostAlike_17 : decode cX11_mostAlike 17 = .ok (.iload 6, 2) := by decide +kernel
theorem dX11_mostAlike_19 : decode cX11_mostAlike 19 = .ok (.iload_n 2, 1) := by decide +kernel
theorem dX11_mostAlike_20 : decode cX11_mostAlike 20 = .ok (.if_icmp .ge 37, 3) := by decide +kernel
theorem dX11_mostAlike_23 : decode cX11_mostAlike 23 = .ok (.aload_n 0, 1) := by decide +kernel
theorem dX11_mostAlike_24 : decode cX11_mostAlike 24 = .ok (.getfield 81, 3) := by decide +kernel
theorem dX11_mostAlike_27 : decode cX11_mostAlike 27 = .ok (.iload 6, 2) := by decide +kernel
theorem dX11_mostAlike_29 : decode cX11_mostAlike 29 = .ok (.iconst 4, 1) := by decide +kernel
theorem dX11_mostAlike_30 : decode cX11_mostAlike 30 = .ok (.imul, 1) := by decide +kernel
theorem dX11_mostAlike_31 : decode cX11_mostAlike 31 = .ok (.iload_n 1, 1) := by decide +kernel
theorem dX11_mostAlike_32 : decode cX11_mostAlike 32 = .ok (.iadd, 1) := by decide +kernel
theorem dX11_mostAlike_33 : decode cX11_mostAlike 33 = .ok (.iaload, 1) := by decide +kernel
theorem dX11_mostAlike_34 : decode cX11_mostAlike 34 = .ok (.aload_n 0, 1) := by decide +kernel
theorem dX11_mostAlike_35 : decode cX11_mostAlike 35 = .ok (.getfield 81, 3) := by decide +kernel
theorem dX11_mostAlike_38 : decode cX11_mostAlike 38 = .ok (.iload 4, 2) := by decide +kernel
theorem dX11_mostAlike_40 : decode cX11_mostAlike 40 = .ok (.iconst 4, 1) := by decide +kernel
theorem dX11_mostAlike_41 : decode cX11_mostAlike 41 = .ok (.imul, 1) := by decide +kernel
theorem dX11_mostAlike_42 : decode cX11_mostAlike 42 = .ok (.iload_n 1, 1) := by decide +kernel
theorem dX11_mostAlike_43 : decode cX11_mostAlike 43 = .ok (.iadd, 1) := by decide +kernel
theorem dX11_mostAlike_44 : decode cX11_mostAlike 44 = .ok (.iaload, 1) := by decide +kernel
theorem dX11_mostAlike_45 : decode cX11_mostAlike 45 = .ok (.if_icmp .ne 6, 3) := by decide +kernel
theorem dX11_mostAlike_48 : decode cX11_mostAlike 48 = .ok (.iinc 5 1, 3) := by decide +kernel
theorem dX11_mostAlike_51 : decode cX11_mostAlike 51 = .ok (.iinc 6 1, 3) := by decide +kernel
theorem dX11_mostAlike_54 : decode cX11_mostAlike 54 = .ok (.goto (-37), 3) := by decide +kernel
theorem dX11_mostAlike_57 : decode cX11_mostAlike 57 = .ok (.iload_n 3, 1) := by decide +kernel
theorem dX11_mostAlike_58 : decode cX11_mostAlike 58 = .ok (.iload 5, 2) := by decide +kernel
theorem dX11_mostAlike_60 : decode cX11_mostAlike 60 = .ok (.invokestatic 392, 3) := by decide +kernel
theorem dX11_mostAlike_63 : decode cX11_mostAlike 63 = .ok (.istore_n 3, 1) := by decide +kernel
theorem dX11_mostAlike_64 : decode cX11_mostAlike 64 = .ok (.iinc 4 1, 3) := by decide +kernel
theorem dX11_mostAlike_67 : decode cX11_mostAlike 67 = .ok (.goto (-62), 3) := by decide +kernel
theorem dX11_mostAlike_70 : decode cX11_mostAlike 70 = .ok (.iload_n 3, 1) := by decide +kernel
theorem dX11_mostAlike_71 : decode cX11_mostAlike 71 = .ok (.ireturn, 1) := by decide +kernel
theorem dX11_seed_0 : decode cX11_seed 0 = .ok (.iload_n 1, 1) := by decide +kernel
theorem dX11_seed_1 : decode cX11_seed 1 = .ok (.ifCond .ge 5, 3) := by decide +kernel
theorem dX11_seed_4 : decode cX11_seed 4 = .ok (.iconst (-1), 1) := by decide +kernel
theorem dX11_seed_5 : decode cX11_seed 5 = .ok (.ireturn, 1) := by decide +kernel
theorem dX11_seed_6 : decode cX11_seed 6 = .ok (.aload_n 0, 1) := by decide +kernel
theorem dX11_seed_7 : decode cX11_seed 7 = .ok (.getfield 38, 3) := by decide +kernel
theorem dX11_seed_10 : decode cX11_seed 10 = .ok (.getfield 239, 3) := by decide +kernel
theorem dX11_seed_13 : decode cX11_seed 13 = .ok (.istore_n 2, 1) := by decide +kernel
theorem dX11_seed_14 : decode cX11_seed 14 = .ok (.aload_n 0, 1) := by decide +kernel
theorem dX11_seed_15 : decode cX11_seed 15 = .ok (.getfield 38, 3) := by decide +kernel
theorem dX11_seed_18 : decode cX11_seed 18 = .ok (.iload_n 1, 1) := by decide +kernel
theorem dX11_seed_19 : decode cX11_seed 19 = .ok (.putfield 239, 3) := by decide +kernel
theorem dX11_seed_22 : decode cX11_seed 22 = .ok (.iload_n 2, 1) := by decide +kernel
theorem dX11_seed_23 : decode cX11_seed 23 = .ok (.ireturn, 1) := by decide +kernel
theorem dX11_years_0 : decode cX11_years 0 = .ok (.aload_n 0, 1) := by decide +kernel
theorem dX11_years_1 : decode cX11_years 1 = .ok (.getfield 38, 3) := by decide +kernel
theorem dX11_years_4 : decode cX11_years 4 = .ok (.getfield 116, 3) := by decide +kernel
theorem dX11_years_7 : decode cX11_years 7 = .ok (.getfield 219, 3) := by decide +kernel
theorem dX11_years_10 : decode cX11_years 10 = .ok (.ifCond .eq 12, 3) := by decide +kernel
theorem dX11_years_13 : decode cX11_years 13 = .ok (.iload_n 3, 1) := by decide +kernel
theorem dX11_years_14 : decode cX11_years 14 = .ok (.iconst 0, 1) := by decide +kernel
theorem dX11_years_15 : decode cX11_years 15 = .ok (.iconst 1, 1) := by decide +kernel
theorem dX11_years_16 : decode cX11_years 16 = .ok (.invokestatic 285, 3) := by decide +kernel
theorem dX11_years_19 : decode cX11_years 19 = .ok (.ifCond .ne 5, 3) := by decide +kernel
theorem dX11_years_22 : decode cX11_years 22 = .ok (.iconst (-1), 1) := by decide +kernel
theorem dX11_years_23 : decode cX11_years 23 = .ok (.ireturn, 1) := by decide +kernel
theorem dX11_years_24 : decode cX11_years 24 = .ok (.iload_n 1, 1) := by decide +kernel
theorem dX11_years_25 : decode cX11_years 25 = .ok (.iconst 1, 1) := by decide +kernel
theorem dX11_years_26 : decode cX11_years 26 = .ok (.bipush 10, 2) := by decide +kernel
theorem dX11_years_28 : decode cX11_years 28 = .ok (.invokestatic 285, 3) := by decide +kernel
theorem dX11_years_31 : decode cX11_years 31 = .ok (.ifCond .eq 13, 3) := by decide +kernel
theorem dX11_years_34 : decode cX11_years 34 = .ok (.iload_n 2, 1) := by decide +kernel
theorem dX11_years_35 : decode cX11_years 35 = .ok (.iconst 1, 1) := by decide +kernel
theorem dX11_years_36 : decode cX11_years 36 = .ok (.bipush 100, 2) := by decide +kernel
theorem dX11_years_38 : decode cX11_years 38 = .ok (.invokestatic 285, 3) := by decide +kernel
theorem dX11_years_41 : decode cX11_years 41 = .ok (.ifCond .ne 5, 3) := by decide +kernel
theorem dX11_years_44 : decode cX11_years 44 = .ok (.iconst (-1), 1) := by decide +kernel
theorem dX11_years_45 : decode cX11_years 45 = .ok (.ireturn, 1) := by decide +kernel
theorem dX11_years_46 : decode cX11_years 46 = .ok (.aload_n 0, 1) := by decide +kernel
theorem dX11_years_47 : decode cX11_years 47 = .ok (.getfield 38, 3) := by decide +kernel
theorem dX11_years_50 : decode cX11_years 50 = .ok (.getfield 116, 3) := by decide +kernel
theorem dX11_years_53 : decode cX11_years 53 = .ok (.getfield 139, 3) := by decide +kernel
theorem dX11_years_56 : decode cX11_years 56 = .ok (.ifCond .eq 16, 3) := by decide +kernel
theorem dX11_years_59 : decode cX11_years 59 = .ok (.aload_n 0, 1) := by decide +kernel
theorem dX11_years_60 : decode cX11_years 60 = .ok (.getfield 38, 3) := by decide +kernel
theorem dX11_years_63 : decode cX11_years 63 = .ok (.getfield 116, 3) := by decide +kernel
theorem dX11_years_66 : decode cX11_years 66 = .ok (.getfield 119, 3) := by decide +kernel
theorem dX11_years_69 : decode cX11_years 69 = .ok (.ifCond .ne 5, 3) := by decide +kernel
theorem dX11_years_72 : decode cX11_years 72 = .ok (.iconst 0, 1) := by decide +kernel
theorem dX11_years_73 : decode cX11_years 73 = .ok (.ireturn, 1) := by decide +kernel
theorem dX11_years_74 : decode cX11_years 74 = .ok (.aload_n 0, 1) := by decide +kernel
theorem dX11_years_75 : decode cX11_years 75 = .ok (.getfield 56, 3) := by decide +kernel
theorem dX11_years_78 : decode cX11_years 78 = .ok (.invokevirtual 282, 3) := by decide +kernel
theorem dX11_years_81 : decode cX11_years 81 = .ok (.aload_n 0, 1) := by decide +kernel
theorem dX11_years_82 : decode cX11_years 82 = .ok (.getfield 56, 3) := by decide +kernel
theorem dX11_years_85 : decode cX11_years 85 = .ok (.aload_n 0, 1) := by decide +kernel
theorem dX11_years_86 : decode cX11_years 86 = .ok (.getfield 38, 3) := by decide +kernel
theorem dX11_years_89 : decode cX11_years 89 = .ok (.getfield 239, 3) := by decide +kernel
theorem dX11_years_92 : decode cX11_years 92 = .ok (.invokevirtual 406, 3) := by decide +kernel
theorem dX11_years_95 : decode cX11_years 95 = .ok (.iconst 0, 1) := by decide +kernel
theorem dX11_years_96 : decode cX11_years 96 = .ok (.istore 4, 2) := by decide +kernel
theorem dX11_years_98 : decode cX11_years 98 = .ok (.iconst 0, 1) := by decide +kernel
theorem dX11_years_99 : decode cX11_years 99 = .ok (.istore 5, 2) := by decide +kernel
theorem dX11_years_101 : decode cX11_years 101 = .ok (.iload 5, 2) := by decide +kernel
theorem dX11_years_103 : decode cX11_years 103 = .ok (.iload_n 1, 1) := by decide +kernel
theorem dX11_years_104 : decode cX11_years 104 = .ok (.if_icmp .ge 61, 3) := by decide +kernel
theorem dX11_years_107 : decode cX11_years 107 = .ok (.aload_n 0, 1) := by decide +kernel
theorem dX11_years_108 : decode cX11_years 108 = .ok (.getfield 49, 3) := by decide +kernel
theorem dX11_years_111 : decode cX11_years 111 = .ok (.aload_n 0, 1) := by decide +kernel
theorem dX11_years_112 : decode cX11_years 112 = .ok (.getfield 38, 3) := by decide +kernel
theorem dX11_years_115 : decode cX11_years 115 = .ok (.getfield 142, 3) := by decide +kernel
theorem dX11_years_118 : decode cX11_years 118 = .ok (.invokevirtual 293, 3) := by decide +kernel
theorem dX11_years_121 : decode cX11_years 121 = .ok (.iconst 0, 1) := by decide +kernel
theorem dX11_years_122 : decode cX11_years 122 = .ok (.istore 6, 2) := by decide +kernel
theorem dX11_years_124 : decode cX11_years 124 = .ok (.iload 6, 2) := by decide +kernel
theorem dX11_years_126 : decode cX11_years 126 = .ok (.iload_n 2, 1) := by decide +kernel
theorem dX11_years_127 : decode cX11_years 127 = .ok (.if_icmp .ge 32, 3) := by decide +kernel
theorem dX11_years_130 : decode cX11_years 130 = .ok (.iload 4, 2) := by decide +kernel
theorem dX11_years_132 : decode cX11_years 132 = .ok (.aload_n 0, 1) := by decide +kernel
theorem dX11_years_133 : decode cX11_years 133 = .ok (.getfield 56, 3) := by decide +kernel
theorem dX11_years_136 : decode cX11_years 136 = .ok (.aload_n 0, 1) := by decide +kernel
theorem dX11_years_137 : decode cX11_years 137 = .ok (.getfield 38, 3) := by decide +kernel
theorem dX11_years_140 : decode cX11_years 140 = .ok (.getfield 116, 3) := by decide +kernel
theorem dX11_years_143 : decode cX11_years 143 = .ok (.aload_n 0, 1) := by decide +kernel
theorem dX11_years_144 : decode cX11_years 144 = .ok (.getfield 49, 3) := by decide +kernel
theorem dX11_years_147 : decode cX11_years 147 = .ok (.invokevirtual 409, 3) := by decide +kernel
theorem dX11_years_150 : decode cX11_years 150 = .ok (.iadd, 1) := by decide +kernel
theorem dX11_years_151 : decode cX11_years 151 = .ok (.istore 4, 2) := by decide +kernel
theorem dX11_years_153 : decode cX11_years 153 = .ok (.iinc 6 1, 3) := by decide +kernel
theorem dX11_years_156 : decode cX11_years 156 = .ok (.goto (-32), 3) := by decide +kernel
theorem dX11_years_159 : decode cX11_years 159 = .ok (.iinc 5 1, 3) := by decide +kernel
theorem dX11_years_162 : decode cX11_years 162 = .ok (.goto (-61), 3) := by decide +kernel
theorem dX11_years_165 : decode cX11_years 165 = .ok (.iload_n 3, 1) := by decide +kernel
theorem dX11_years_166 : decode cX11_years 166 = .ok (.ifCond .ne 8, 3) := by decide +kernel
theorem dX11_years_169 : decode cX11_years 169 = .ok (.iload 4, 2) := by decide +kernel
theorem dX11_years_171 : decode cX11_years 171 = .ok (.goto 10, 3) := by decide +kernel
theorem dX11_years_174 : decode cX11_years 174 = .ok (.aload_n 0, 1) := by decide +kernel
theorem dX11_years_175 : decode cX11_years 175 = .ok (.getfield 56, 3) := by decide +kernel
theorem dX11_years_178 : decode cX11_years 178 = .ok (.invokevirtual 413, 3) := by decide +kernel
theorem dX11_years_181 : decode cX11_years 181 = .ok (.ireturn, 1) := by decide +kernel
theorem dX11_image_0 : decode cX11_image 0 = .ok (.iload_n 1, 1) := by decide +kernel
theorem dX11_image_1 : decode cX11_image 1 = .ok (.iconst 0, 1) := by decide +kernel
theorem dX11_image_2 : decode cX11_image 2 = .ok (.iconst 3, 1) := by decide +kernel
theorem dX11_image_3 : decode cX11_image 3 = .ok (.invokestatic 285, 3) := by decide +kernel
theorem dX11_image_6 : decode cX11_image 6 = .ok (.ifCond .ne 5, 3) := by decide +kernel
theorem dX11_image_9 : decode cX11_image 9 = .ok (.iconst (-1), 1) := by decide +kernel
theorem dX11_image_10 : decode cX11_image 10 = .ok (.ireturn, 1) := by decide +kernel
theorem dX11_image_11 : decode cX11_image 11 = .ok (.aload_n 0, 1) := by decide +kernel
theorem dX11_image_12 : decode cX11_image 12 = .ok (.getfield 42, 3) := by decide +kernel
theorem dX11_image_15 : decode cX11_image 15 = .ok (.iload_n 1, 1) := by decide +kernel
theorem dX11_image_16 : decode cX11_image 16 = .ok (.aaload, 1) := by decide +kernel
theorem dX11_image_17 : decode cX11_image 17 = .ok (.ifnonnull 16, 3) := by decide +kernel
theorem dX11_image_20 : decode cX11_image 20 = .ok (.aload_n 0, 1) := by decide +kernel
theorem dX11_image_21 : decode cX11_image 21 = .ok (.getfield 42, 3) := by decide +kernel
theorem dX11_image_24 : decode cX11_image 24 = .ok (.iload_n 1, 1) := by decide +kernel
theorem dX11_image_25 : decode cX11_image 25 = .ok (.new 35, 3) := by decide +kernel
theorem dX11_image_28 : decode cX11_image 28 = .ok (.dup, 1) := by decide +kernel
theorem dX11_image_29 : decode cX11_image 29 = .ok (.invokespecial 37, 3) := by decide +kernel
theorem dX11_image_32 : decode cX11_image 32 = .ok (.aastore, 1) := by decide +kernel
theorem dX11_image_33 : decode cX11_image 33 = .ok (.aload_n 0, 1) := by decide +kernel
theorem dX11_image_34 : decode cX11_image 34 = .ok (.getfield 42, 3) := by decide +kernel
theorem dX11_image_37 : decode cX11_image 37 = .ok (.iload_n 1, 1) := by decide +kernel
theorem dX11_image_38 : decode cX11_image 38 = .ok (.aaload, 1) := by decide +kernel
theorem dX11_image_39 : decode cX11_image 39 = .ok (.aload_n 0, 1) := by decide +kernel
theorem dX11_image_40 : decode cX11_image 40 = .ok (.getfield 38, 3) := by decide +kernel
theorem dX11_image_43 : decode cX11_image 43 = .ok (.invokevirtual 416, 3) := by decide +kernel
theorem dX11_image_46 : decode cX11_image 46 = .ok (.aload_n 0, 1) := by decide +kernel
theorem dX11_image_47 : decode cX11_image 47 = .ok (.getfield 38, 3) := by decide +kernel
theorem dX11_image_50 : decode cX11_image 50 = .ok (.getfield 142, 3) := by decide +kernel
theorem dX11_image_53 : decode cX11_image 53 = .ok (.getfield 165, 3) := by decide +kernel
theorem dX11_image_56 : decode cX11_image 56 = .ok (.ireturn, 1) := by decide +kernel
theorem dX11_back_0 : decode cX11_back 0 = .ok (.iload_n 1, 1) := by decide +kernel
theorem dX11_back_1 : decode cX11_back 1 = .ok (.iconst 0, 1) := by decide +kernel
theorem dX11_back_2 : decode cX11_back 2 = .ok (.iconst 3, 1) := by decide +kernel
theorem dX11_back_3 : decode cX11_back 3 = .ok (.invokestatic 285, 3) := by decide +kernel
theorem dX11_back_6 : decode cX11_back 6 = .ok (.ifCond .eq 12, 3) := by decide +kernel
theorem dX11_back_9 : decode cX11_back 9 = .ok (.aload_n 0, 1) := by decide +kernel
theorem dX11_back_10 : decode cX11_back 10 = .ok (.getfield 42, 3) := by decide +kernel
theorem dX11_back_13 : decode cX11_back 13 = .ok (.iload_n 1, 1) := by decide +kernel
theorem dX11_back_14 : decode cX11_back 14 = .ok (.aaload, 1) := by decide +kernel
theorem dX11_back_15 : decode cX11_back 15 = .ok (.ifnonnull 5, 3) := by decide +kernel
theorem dX11_back_18 : decode cX11_back 18 = .ok (.iconst (-1), 1) := by decide +kernel
theorem dX11_back_19 : decode cX11_back 19 = .ok (.ireturn, 1) := by decide +kernel
theorem dX11_back_20 : decode cX11_back 20 = .ok (.aload_n 0, 1) := by decide +kernel
theorem dX11_back_21 : decode cX11_back 21 = .ok (.getfield 38, 3) := by decide +kernel
theorem dX11_back_24 : decode cX11_back 24 = .ok (.aload_n 0, 1) := by decide +kernel
theorem dX11_back_25 : decode cX11_back 25 = .ok (.getfield 42, 3) := by decide +kernel
theorem dX11_back_28 : decode cX11_back 28 = .ok (.iload_n 1, 1) := by decide +kernel
theorem dX11_back_29 : decode cX11_back 29 = .ok (.aaload, 1) := by decide +kernel
theorem dX11_back_30 : decode cX11_back 30 = .ok (.invokevirtual 416, 3) := by decide +kernel
theorem dX11_back_33 : decode cX11_back 33 = .ok (.aload_n 0, 1) := by decide +kernel
theorem dX11_back_34 : decode cX11_back 34 = .ok (.getfield 38, 3) := by decide +kernel
theorem dX11_back_37 : decode cX11_back 37 = .ok (.getfield 142, 3) := by decide +kernel
theorem dX11_back_40 : decode cX11_back 40 = .ok (.getfield 165, 3) := by decide +kernel
theorem dX11_back_43 : decode cX11_back 43 = .ok (.ireturn, 1) := by decide +kernel
theorem dX12_init_0 : decode cX12_init 0 = .ok (.aload_n 0, 1) := by decide +kernel
theorem dX12_init_1 : decode cX12_init 1 = .ok (.invokespecial 3, 3) := by decide +kernel
theorem dX12_init_4 : decode cX12_init 4 = .ok (.aload_n 0, 1) := by decide +kernel
theorem dX12_init_5 : decode cX12_init 5 = .ok (.bipush 13, 2) := by decide +kernel
theorem dX12_init_7 : decode cX12_init 7 = .ok (.newarray .int, 2) := by decide +kernel
theorem dX12_init_9 : decode cX12_init 9 = .ok (.dup, 1) := by decide +kernel
theorem dX12_init_10 : decode cX12_init 10 = .ok (.iconst 0, 1) := by decide +kernel
theorem dX12_init_11 : decode cX12_init 11 = .ok (.iconst 0, 1) := by decide +kernel
theorem dX12_init_12 : decode cX12_init 12 = .ok (.iastore, 1) := by decide +kernel
theorem dX12_init_13 : decode cX12_init 13 = .ok (.dup, 1) := by decide +kernel
theorem dX12_init_14 : decode cX12_init 14 = .ok (.iconst 1, 1) := by decide +kernel
theorem dX12_init_15 : decode cX12_init 15 = .ok (.iconst 0, 1) := by decide +kernel
theorem dX12_init_16 : decode cX12_init 16 = .ok (.iastore, 1) := by decide +kernel
theorem dX12_init_17 : decode cX12_init 17 = .ok (.dup, 1) := by decide +kernel
theorem dX12_init_18 : decode cX12_init 18 = .ok (.iconst 2, 1) := by decide +kernel
theorem dX12_init_19 : decode cX12_init 19 = .ok (.iconst 0, 1) := by decide +kernel
theorem dX12_init_20 : decode cX12_init 20 = .ok (.iastore, 1) := by decide +kernel
theorem dX12_init_21 : decode cX12_init 21 = .ok (.dup, 1) := by decide +kernel
theorem dX12_init_22 : decode cX12_init 22 = .ok (.iconst 3, 1) := by decide +kernel
theorem dX12_init_23 : decode cX12_init 23 = .ok (.iconst 0, 1) := by decide +kernel
theorem dX12_init_24 : decode cX12_init 24 = .ok (.iastore, 1) := by decide +kernel
theorem dX12_init_25 : decode cX12_init 25 = .ok (.dup, 1) := by decide +kernel
theorem dX12_init_26 : decode cX12_init 26 = .ok (.iconst 4, 1) := by decide +kernel
theorem dX12_init_27 : decode cX12_init 27 = .ok (.iconst 0, 1) := by decide +kernel
theorem dX12_init_28 : decode cX12_init 28 = .ok (.iastore, 1) := by decide +kernel
theorem dX12_init_29 : decode cX12_init 29 = .ok (.dup, 1) := by decide +kernel
theorem dX12_init_30 : decode cX12_init 30 = .ok (.iconst 5, 1) := by decide +kernel
theorem dX12_init_31 : decode cX12_init 31 = .ok (.iconst 0, 1) := by decide +kernel
theorem dX12_init_32 : decode cX12_init 32 = .ok (.iastore, 1) := by decide +kernel
theorem dX12_init_33 : decode cX12_init 33 = .ok (.dup, 1) := by decide +kernel
theorem dX12_init_34 : decode cX12_init 34 = .ok (.bipush 6, 2) := by decide +kernel
theorem dX12_init_36 : decode cX12_init 36 = .ok (.iconst 0, 1) := by decide +kernel
theorem dX12_init_37 : decode cX12_init 37 = .ok (.iastore, 1) := by decide +kernel
theorem dX12_init_38 : decode cX12_init 38 = .ok (.dup, 1) := by decide +kernel
theorem dX12_init_39 : decode cX12_init 39 = .ok (.bipush 7, 2) := by decide +kernel
theorem dX12_init_41 : decode cX12_init 41 = .ok (.iconst 0, 1) := by decide +kernel
theorem dX12_init_42 : decode cX12_init 42 = .ok (.iastore, 1) := by decide +kernel
theorem dX12_init_43 : decode cX12_init 43 = .ok (.dup, 1) := by decide +kernel
theorem dX12_init_44 : decode cX12_init 44 = .ok (.bipush 8, 2) := by decide +kernel
theorem dX12_init_46 : decode cX12_init 46 = .ok (.iconst 0, 1) := by decide +kernel
theorem dX12_init_47 : decode cX12_init 47 = .ok (.iastore, 1) := by decide +kernel
theorem dX12_init_48 : decode cX12_init 48 = .ok (.dup, 1) := by decide +kernel
theorem dX12_init_49 : decode cX12_init 49 = .ok (.bipush 9, 2) := by decide +kernel
theorem dX12_init_51 : decode cX12_init 51 = .ok (.iconst 0, 1) := by decide +kernel
theorem dX12_init_52 : decode cX12_init 52 = .ok (.iastore, 1) := by decide +kernel
theorem dX12_init_53 : decode cX12_init 53 = .ok (.dup, 1) := by decide +kernel
theorem dX12_init_54 : decode cX12_init 54 = .ok (.bipush 10, 2) := by decide +kernel
theorem dX12_init_56 : decode cX12_init 56 = .ok (.iconst 0, 1) := by decide +kernel
theorem dX12_init_57 : decode cX12_init 57 = .ok (.iastore, 1) := by decide +kernel
theorem dX12_init_58 : decode cX12_init 58 = .ok (.dup, 1) := by decide +kernel
theorem dX12_init_59 : decode cX12_init 59 = .ok (.bipush 11, 2) := by decide +kernel
theorem dX12_init_61 : decode cX12_init 61 = .ok (.iconst 0, 1) := by decide +kernel
theorem dX12_init_62 : decode cX12_init 62 = .ok (.iastore, 1) := by decide +kernel
theorem dX12_init_63 : decode cX12_init 63 = .ok (.dup, 1) := by decide +kernel
theorem dX12_init_64 : decode cX12_init 64 = .ok (.bipush 12, 2) := by decide +kernel
theorem dX12_init_66 : decode cX12_init 66 = .ok (.iconst (-1), 1) := by decide +kernel
theorem dX12_init_67 : decode cX12_init 67 = .ok (.iastore, 1) := by decide +kernel
theorem dX12_init_68 : decode cX12_init 68 = .ok (.putfield 9, 3) := by decide +kernel
theorem dX12_init_71 : decode cX12_init 71 = .ok (.aload_n 0, 1) := by decide +kernel
theorem dX12_init_72 : decode cX12_init 72 = .ok (.iconst 5, 1) := by decide +kernel
theorem dX12_init_73 : decode cX12_init 73 = .ok (.newarray .int, 2) := by decide +kernel
theorem dX12_init_75 : decode cX12_init 75 = .ok (.putfield 13, 3) := by decide +kernel
theorem dX12_init_78 : decode cX12_init 78 = .ok (.aload_n 0, 1) := by decide +kernel
theorem dX12_init_79 : decode cX12_init 79 = .ok (.iconst 4, 1) := by decide +kernel
theorem dX12_init_80 : decode cX12_init 80 = .ok (.newarray .int, 2) := by decide +kernel
theorem dX12_init_82 : decode cX12_init 82 = .ok (.putfield 16, 3) := by decide +kernel
theorem dX12_init_85 : decode cX12_init 85 = .ok (.aload_n 0, 1) := by decide +kernel
theorem dX12_init_86 : decode cX12_init 86 = .ok (.iconst 4, 1) := by decide +kernel
theorem dX12_init_87 : decode cX12_init 87 = .ok (.newarray .int, 2) := by decide +kernel
theorem dX12_init_89 : decode cX12_init 89 = .ok (.putfield 19, 3) := by decide +kernel
theorem dX12_init_92 : decode cX12_init 92 = .ok (.aload_n 0, 1) := by decide +kernel
theorem dX12_init_93 : decode cX12_init 93 = .ok (.iconst 4, 1) := by decide +kernel
theorem dX12_init_94 : decode cX12_init 94 = .ok (.newarray .int, 2) := by decide +kernel
theorem dX12_init_96 : decode cX12_init 96 = .ok (.putfield 22, 3) := by decide +kernel
theorem dX12_init_99 : decode cX12_init 99 = .ok (.aload_n 0, 1) := by decide +kernel
theorem dX12_init_100 : decode cX12_init 100 = .ok (.iconst 5, 1) := by decide +kernel
theorem dX12_init_101 : decode cX12_init 101 = .ok (.newarray .int, 2) := by decide +kernel
theorem dX12_init_103 : decode cX12_init 103 = .ok (.putfield 25, 3) := by decide +kernel
theorem dX12_init_106 : decode cX12_init 106 = .ok (.aload_n 0, 1) := by decide +kernel
theorem dX12_init_107 : decode cX12_init 107 = .ok (.iconst 5, 1) := by decide +kernel
theorem dX12_init_108 : decode cX12_init 108 = .ok (.newarray .int, 2) := by decide +kernel
theorem dX12_init_110 : decode cX12_init 110 = .ok (.putfield 28, 3) := by decide +kernel
theorem dX12_init_113 : decode cX12_init 113 = .ok (.aload_n 0, 1) := by decide +kernel
theorem dX12_init_114 : decode cX12_init 114 = .ok (.bipush 16, 2) := by decide +kernel
theorem dX12_init_116 : decode cX12_init 116 = .ok (.newarray .int, 2) := by decide +kernel
theorem dX12_init_118 : decode cX12_init 118 = .ok (.putfield 31, 3) := by decide +kernel
theorem dX12_init_121 : decode cX12_init 121 = .ok (.aload_n 0, 1) := by decide +kernel
theorem dX12_init_122 : decode cX12_init 122 = .ok (.bipush 80, 2) := by decide +kernel
theorem dX12_init_124 : decode cX12_init 124 = .ok (.newarray .int, 2) := by decide +kernel
theorem dX12_init_126 : decode cX12_init 126 = .ok (.putfield 34, 3) := by decide +kernel
theorem dX12_init_129 : decode cX12_init 129 = .ok (.aload_n 0, 1) := by decide +kernel
theorem dX12_init_130 : decode cX12_init 130 = .ok (.bipush 80, 2) := by decide +kernel
theorem dX12_init_132 : decode cX12_init 132 = .ok (.newarray .int, 2) := by decide +kernel
theorem dX12_init_134 : decode cX12_init 134 = .ok (.putfield 37, 3) := by decide +kernel
theorem dX12_init_137 : decode cX12_init 137 = .ok (.aload_n 0, 1) := by decide +kernel
theorem dX12_init_138 : decode cX12_init 138 = .ok (.bipush 10, 2) := by decide +kernel
theorem dX12_init_140 : decode cX12_init 140 = .ok (.newarray .int, 2) := by decide +kernel
theorem dX12_init_142 : decode cX12_init 142 = .ok (.putfield 40, 3) := by decide +kernel
theorem dX12_init_145 : decode cX12_init 145 = .ok (.aload_n 0, 1) := by decide +kernel
theorem dX12_init_146 : decode cX12_init 146 = .ok (.bipush 10, 2) := by decide +kernel
theorem dX12_init_148 : decode cX12_init 148 = .ok (.newarray .int, 2) := by decide +kernel
theorem dX12_init_150 : decode cX12_init 150 = .ok (.putfield 43, 3) := by decide +kernel
theorem dX12_init_153 : decode cX12_init 153 = .ok (.aload_n 0, 1) := by decide +kernel
theorem dX12_init_154 : decode cX12_init 154 = .ok (.bipush 10, 2) := by decide +kernel
theorem dX12_init_156 : decode cX12_init 156 = .ok (.newarray .int, 2) := by decide +kernel
theorem dX12_init_158 : decode cX12_init 158 = .ok (.putfield 46, 3) := by decide +kernel
theorem dX12_init_161 : decode cX12_init 161 = .ok (.aload_n 0, 1) := by decide +kernel
theorem dX12_init_162 : decode cX12_init 162 = .ok (.bipush 16, 2) := by decide +kernel
theorem dX12_init_164 : decode cX12_init 164 = .ok (.newarray .int, 2) := by decide +kernel
theorem dX12_init_166 : decode cX12_init 166 = .ok (.putfield 49, 3) := by decide +kernel
theorem dX12_init_169 : decode cX12_init 169 = .ok (.aload_n 0, 1) := by decide +kernel
theorem dX12_init_170 : decode cX12_init 170 = .ok (.bipush 80, 2) := by decide +kernel
theorem dX12_init_172 : decode cX12_init 172 = .ok (.newarray .int, 2) := by decide +kernel
theorem dX12_init_174 : decode cX12_init 174 = .ok (.putfield 52, 3) := by decide +kernel
theorem dX12_init_177 : decode cX12_init 177 = .ok (.aload_n 0, 1) := by decide +kernel
theorem dX12_init_178 : decode cX12_init 178 = .ok (.iconst 4, 1) := by decide +kernel
theorem dX12_init_179 : decode cX12_init 179 = .ok (.newarray .int, 2) := by decide +kernel
theorem dX12_init_181 : decode cX12_init 181 = .ok (.putfield 55, 3) := by decide +kernel
theorem dX12_init_184 : decode cX12_init 184 = .ok (.aload_n 0, 1) := by decide +kernel
theorem dX12_init_185 : decode cX12_init 185 = .ok (.iconst 1, 1) := by decide +kernel
theorem dX12_init_186 : decode cX12_init 186 = .ok (.newarray .int, 2) := by decide +kernel
theorem dX12_init_188 : decode cX12_init 188 = .ok (.putfield 58, 3) := by decide +kernel
theorem dX12_init_191 : decode cX12_init 191 = .ok (.aload_n 0, 1) := by decide +kernel
theorem dX12_init_192 : decode cX12_init 192 = .ok (.bipush 9, 2) := by decide +kernel
theorem dX12_init_194 : decode cX12_init 194 = .ok (.newarray .int, 2) := by decide +kernel
theorem dX12_init_196 : decode cX12_init 196 = .ok (.putfield 61, 3) := by decide +kernel
theorem dX12_init_199 : decode cX12_init 199 = .ok (.aload_n 0, 1) := by decide +kernel
theorem dX12_init_200 : decode cX12_init 200 = .ok (.iconst 5, 1) := by decide +kernel
theorem dX12_init_201 : decode cX12_init 201 = .ok (.newarray .int, 2) := by decide +kernel
theorem dX12_init_203 : decode cX12_init 203 = .ok (.putfield 64, 3) := by decide +kernel
theorem dX12_init_206 : decode cX12_init 206 = .ok (.aload_n 0, 1) := by decide +kernel
theorem dX12_init_207 : decode cX12_init 207 = .ok (.iconst 4, 1) := by decide +kernel
theorem dX12_init_208 : decode cX12_init 208 = .ok (.newarray .int, 2) := by decide +kernel
theorem dX12_init_210 : decode cX12_init 210 = .ok (.putfield 67, 3) := by decide +kernel
theorem dX12_init_213 : decode cX12_init 213 = .ok (.aload_n 0, 1) := by decide +kernel
theorem dX12_init_214 : decode cX12_init 214 = .ok (.iconst 4, 1) := by decide +kernel
theorem dX12_init_215 : decode cX12_init 215 = .ok (.newarray .int, 2) := by decide +kernel
theorem dX12_init_217 : decode cX12_init 217 = .ok (.putfield 70, 3) := by decide +kernel
theorem dX12_init_220 : decode cX12_init 220 = .ok (.aload_n 0, 1) := by decide +kernel
theorem dX12_init_221 : decode cX12_init 221 = .ok (.iconst 4, 1) := by decide +kernel
theorem dX12_init_222 : decode cX12_init 222 = .ok (.newarray .int, 2) := by decide +kernel
theorem dX12_init_224 : decode cX12_init 224 = .ok (.putfield 73, 3) := by decide +kernel
theorem dX12_init_227 : decode cX12_init 227 = .ok (.aload_n 0, 1) := by decide +kernel
theorem dX12_init_228 : decode cX12_init 228 = .ok (.iconst 5, 1) := by decide +kernel
theorem dX12_init_229 : decode cX12_init 229 = .ok (.newarray .int, 2) := by decide +kernel
theorem dX12_init_231 : decode cX12_init 231 = .ok (.putfield 76, 3) := by decide +kernel
theorem dX12_init_234 : decode cX12_init 234 = .ok (.aload_n 0, 1) := by decide +kernel
theorem dX12_init_235 : decode cX12_init 235 = .ok (.iconst 5, 1) := by decide +kernel
theorem dX12_init_236 : decode cX12_init 236 = .ok (.newarray .int, 2) := by decide +kernel
theorem dX12_init_238 : decode cX12_init 238 = .ok (.putfield 79, 3) := by decide +kernel
theorem dX12_init_241 : decode cX12_init 241 = .ok (.aload_n 0, 1) := by decide +kernel
theorem dX12_init_242 : decode cX12_init 242 = .ok (.bipush 16, 2) := by decide +kernel
theorem dX12_init_244 : decode cX12_init 244 = .ok (.newarray .int, 2) := by decide +kernel
theorem dX12_init_246 : decode cX12_init 246 = .ok (.putfield 82, 3) := by decide +kernel
theorem dX12_init_249 : decode cX12_init 249 = .ok (.aload_n 0, 1) := by decide +kernel
theorem dX12_init_250 : decode cX12_init 250 = .ok (.bipush 80, 2) := by decide +kernel
theorem dX12_init_252 : decode cX12_init 252 = .ok (.newarray .int, 2) := by decide +kernel
theorem dX12_init_254 : decode cX12_init 254 = .ok (.putfield 85, 3) := by decide +kernel
theorem dX12_init_257 : decode cX12_init 257 = .ok (.aload_n 0, 1) := by decide +kernel
theorem dX12_init_258 : decode cX12_init 258 = .ok (.bipush 13, 2) := by decide +kernel
theorem dX12_init_260 : decode cX12_init 260 = .ok (.putfield 88, 3) := by decide +kernel
theorem dX12_init_263 : decode cX12_init 263 = .ok (.aload_n 0, 1) := by decide +kernel
theorem dX12_init_264 : decode cX12_init 264 = .ok (.sipush 400, 3) := by decide +kernel
theorem dX12_init_267 : decode cX12_init 267 = .ok (.newarray .byte, 2) := by decide +kernel
theorem dX12_init_269 : decode cX12_init 269 = .ok (.putfield 92, 3) := by decide +kernel
theorem dX12_init_272 : decode cX12_init 272 = .ok (.aload_n 0, 1) := by decide +kernel
theorem dX12_init_273 : decode cX12_init 273 = .ok (.sipush 1800, 3) := by decide +kernel
theorem dX12_init_276 : decode cX12_init 276 = .ok (.newarray .int, 2) := by decide +kernel
theorem dX12_init_278 : decode cX12_init 278 = .ok (.putfield 96, 3) := by decide +kernel
theorem dX12_init_281 : decode cX12_init 281 = .ok (.aload_n 0, 1) := by decide +kernel
theorem dX12_init_282 : decode cX12_init 282 = .ok (.sipush 1800, 3) := by decide +kernel
theorem dX12_init_285 : decode cX12_init 285 = .ok (.newarray .int, 2) := by decide +kernel
theorem dX12_init_287 : decode cX12_init 287 = .ok (.putfield 99, 3) := by decide +kernel
theorem dX12_init_290 : decode cX12_init 290 = .ok (.aload_n 0, 1) := by decide +kernel
theorem dX12_init_291 : decode cX12_init 291 = .ok (.bipush 6, 2) := by decide +kernel
theorem dX12_init_293 : decode cX12_init 293 = .ok (.newarray .int, 2) := by decide +kernel
theorem dX12_init_295 : decode cX12_init 295 = .ok (.putfield 102, 3) := by decide +kernel
theorem dX12_init_298 : decode cX12_init 298 = .ok (.aload_n 0, 1) := by decide +kernel
theorem dX12_init_299 : decode cX12_init 299 = .ok (.bipush 72, 2) := by decide +kernel
theorem dX12_init_301 : decode cX12_init 301 = .ok (.newarray .int, 2) := by decide +kernel
theorem dX12_init_303 : decode cX12_init 303 = .ok (.putfield 105, 3) := by decide +kernel
theorem dX12_init_306 : decode cX12_init 306 = .ok (.aload_n 0, 1) := by decide +kernel
theorem dX12_init_307 : decode cX12_init 307 = .ok (.bipush 72, 2) := by decide +kernel
theorem dX12_init_309 : decode cX12_init 309 = .ok (.newarray .int, 2) := by decide +kernel
theorem dX12_init_311 : decode cX12_init 311 = .ok (.putfield 108, 3) := by decide +kernel
theorem dX12_init_314 : decode cX12_init 314 = .ok (.aload_n 0, 1) := by decide +kernel
theorem dX12_init_315 : decode cX12_init 315 = .ok (.bipush 72, 2) := by decide +kernel
theorem dX12_init_317 : decode cX12_init 317 = .ok (.newarray .int, 2) := by decide +kernel
theorem dX12_init_319 : decode cX12_init 319 = .ok (.putfield 111, 3) := by decide +kernel
theorem dX12_init_322 : decode cX12_init 322 = .ok (.aload_n 0, 1) := by decide +kernel
theorem dX12_init_323 : decode cX12_init 323 = .ok (.sipush 402, 3) := by decide +kernel
theorem dX12_init_326 : decode cX12_init 326 = .ok (.newarray .int, 2) := by decide +kernel
theorem dX12_init_328 : decode cX12_init 328 = .ok (.putfield 114, 3) := by decide +kernel
theorem dX12_init_331 : decode cX12_init 331 = .ok (.aload_n 0, 1) := by decide +kernel
theorem dX12_init_332 : decode cX12_init 332 = .ok (.bipush 13, 2) := by decide +kernel
theorem dX12_init_334 : decode cX12_init 334 = .ok (.newarray .long, 2) := by decide +kernel
theorem dX12_init_336 : decode cX12_init 336 = .ok (.putfield 117, 3) := by decide +kernel
theorem dX12_init_339 : decode cX12_init 339 = .ok (.aload_n 0, 1) := by decide +kernel
theorem dX12_init_340 : decode cX12_init 340 = .ok (.sipush 300, 3) := by decide +kernel
theorem dX12_init_343 : decode cX12_init 343 = .ok (.newarray .long, 2) := by decide +kernel
theorem dX12_init_345 : decode cX12_init 345 = .ok (.putfield 121, 3) := by decide +kernel
theorem dX12_init_348 : decode cX12_init 348 = .ok (.aload_n 0, 1) := by decide +kernel
theorem dX12_init_349 : decode cX12_init 349 = .ok (.iconst 4, 1) := by decide +kernel
theorem dX12_init_350 : decode cX12_init 350 = .ok (.newarray .int, 2) := by decide +kernel
theorem dX12_init_352 : decode cX12_init 352 = .ok (.putfield 124, 3) := by decide +kernel
theorem dX12_init_355 : decode cX12_init 355 = .ok (.aload_n 0, 1) := by decide +kernel
theorem dX12_init_356 : decode cX12_init 356 = .ok (.iconst 4, 1) := by decide +kernel
theorem dX12_init_357 : decode cX12_init 357 = .ok (.newarray .int, 2) := by decide +kernel
theorem dX12_init_359 : decode cX12_init 359 = .ok (.putfield 127, 3) := by decide +kernel
theorem dX12_init_362 : decode cX12_init 362 = .ok (.aload_n 0, 1) := by decide +kernel
theorem dX12_init_363 : decode cX12_init 363 = .ok (.sipush 3640, 3) := by decide +kernel
theorem dX12_init_366 : decode cX12_init 366 = .ok (.newarray .int, 2) := by decide +kernel
theorem dX12_init_368 : decode cX12_init 368 = .ok (.putfield 130, 3) := by decide +kernel
theorem dX12_init_371 : decode cX12_init 371 = .ok (.aload_n 0, 1) := by decide +kernel
theorem dX12_init_372 : decode cX12_init 372 = .ok (.iconst 1, 1) := by decide +kernel
theorem dX12_init_373 : decode cX12_init 373 = .ok (.newarray .int, 2) := by decide +kernel
theorem dX12_init_375 : decode cX12_init 375 = .ok (.putfield 133, 3) := by decide +kernel
theorem dX12_init_378 : decode cX12_init 378 = .ok (.aload_n 0, 1) := by decide +kernel
theorem dX12_init_379 : decode cX12_init 379 = .ok (.bipush 6, 2) := by decide +kernel
theorem dX12_init_381 : decode cX12_init 381 = .ok (.newarray .int, 2) := by decide +kernel
theorem dX12_init_383 : decode cX12_init 383 = .ok (.putfield 136, 3) := by decide +kernel
theorem dX12_init_386 : decode cX12_init 386 = .ok (.aload_n 0, 1) := by decide +kernel
theorem dX12_init_387 : decode cX12_init 387 = .ok (.bipush 6, 2) := by decide +kernel
theorem dX12_init_389 : decode cX12_init 389 = .ok (.newarray .int, 2) := by decide +kernel
theorem dX12_init_391 : decode cX12_init 391 = .ok (.putfield 139, 3) := by decide +kernel
theorem dX12_init_394 : decode cX12_init 394 = .ok (.aload_n 0, 1) := by decide +kernel
theorem dX12_init_395 : decode cX12_init 395 = .ok (.iconst 5, 1) := by decide +kernel
theorem dX12_init_396 : decode cX12_init 396 = .ok (.newarray .int, 2) := by decide +kernel
theorem dX12_init_398 : decode cX12_init 398 = .ok (.putfield 142, 3) := by decide +kernel
theorem dX12_init_401 : decode cX12_init 401 = .ok (.aload_n 0, 1) := by decide +kernel
theorem dX12_init_402 : decode cX12_init 402 = .ok (.iconst 5, 1) := by decide +kernel
theorem dX12_init_403 : decode cX12_init 403 = .ok (.newarray .int, 2) := by decide +kernel
theorem dX12_init_405 : decode cX12_init 405 = .ok (.putfield 145, 3) := by decide +kernel
theorem dX12_init_408 : decode cX12_init 408 = .ok (.aload_n 0, 1) := by decide +kernel
theorem dX12_init_409 : decode cX12_init 409 = .ok (.iconst 4, 1) := by decide +kernel
theorem dX12_init_410 : decode cX12_init 410 = .ok (.newarray .int, 2) := by decide +kernel
theorem dX12_init_412 : decode cX12_init 412 = .ok (.putfield 148, 3) := by decide +kernel
theorem dX12_init_415 : decode cX12_init 415 = .ok (.aload_n 0, 1) := by decide +kernel
theorem dX12_init_416 : decode cX12_init 416 = .ok (.bipush 20, 2) := by decide +kernel
theorem dX12_init_418 : decode cX12_init 418 = .ok (.newarray .int, 2) := by decide +kernel
theorem dX12_init_420 : decode cX12_init 420 = .ok (.putfield 151, 3) := by decide +kernel
theorem dX12_init_423 : decode cX12_init 423 = .ok (.aload_n 0, 1) := by decide +kernel
theorem dX12_init_424 : decode cX12_init 424 = .ok (.sipush 20500, 3) := by decide +kernel
theorem dX12_init_427 : decode cX12_init 427 = .ok (.newarray .int, 2) := by decide +kernel
theorem dX12_init_429 : decode cX12_init 429 = .ok (.putfield 154, 3) := by decide +kernel
theorem dX12_init_432 : decode cX12_init 432 = .ok (.aload_n 0, 1) := by decide +kernel
theorem dX12_init_433 : decode cX12_init 433 = .ok (.iconst 4, 1) := by decide +kernel
theorem dX12_init_434 : decode cX12_init 434 = .ok (.newarray .boolean, 2) := by decide +kernel
theorem dX12_init_436 : decode cX12_init 436 = .ok (.putfield 157, 3) := by decide +kernel
theorem dX12_init_439 : decode cX12_init 439 = .ok (.return_, 1) := by decide +kernel
theorem dX12_in_0 : decode cX12_in 0 = .ok (.lload_n 0, 1) := by decide +kernel
theorem dX12_in_1 : decode cX12_in 1 = .ok (.lload_n 2, 1) := by decide +kernel
theorem dX12_in_2 : decode cX12_in 2 = .ok (.lcmp, 1) := by decide +kernel
theorem dX12_in_3 : decode cX12_in 3 = .ok (.ifCond .lt 14, 3) := by decide +kernel
theorem dX12_in_6 : decode cX12_in 6 = .ok (.lload_n 0, 1) := by decide +kernel
theorem dX12_in_7 : decode cX12_in 7 = .ok (.lload 4, 2) := by decide +kernel
theorem dX12_in_9 : decode cX12_in 9 = .ok (.lcmp, 1) := by decide +kernel
theorem dX12_in_10 : decode cX12_in 10 = .ok (.ifCond .gt 7, 3) := by decide +kernel
theorem dX12_in_13 : decode cX12_in 13 = .ok (.iconst 1, 1) := by decide +kernel
theorem dX12_in_14 : decode cX12_in 14 = .ok (.goto 4, 3) := by decide +kernel
theorem dX12_in_17 : decode cX12_in 17 = .ok (.iconst 0, 1) := by decide +kernel
theorem dX12_in_18 : decode cX12_in 18 = .ok (.ireturn, 1) := by decide +kernel
theorem dX12_bits_0 : decode cX12_bits 0 = .ok (.iconst 0, 1) := by decide +kernel
theorem dX12_bits_1 : decode cX12_bits 1 = .ok (.istore_n 1, 1) := by decide +kernel
theorem dX12_bits_2 : decode cX12_bits 2 = .ok (.iconst 0, 1) := by decide +kernel
theorem dX12_bits_3 : decode cX12_bits 3 = .ok (.istore_n 2, 1) := by decide +kernel
theorem dX12_bits_4 : decode cX12_bits 4 = .ok (.iload_n 2, 1) := by decide +kernel
theorem dX12_bits_5 : decode cX12_bits 5 = .ok (.bipush 16, 2) := by decide +kernel
theorem dX12_bits_7 : decode cX12_bits 7 = .ok (.if_icmp .ge 17, 3) := by decide +kernel
theorem dX12_bits_10 : decode cX12_bits 10 = .ok (.iload_n 1, 1) := by decide +kernel
theorem dX12_bits_11 : decode cX12_bits 11 = .ok (.iload_n 0, 1) := by decide +kernel
theorem dX12_bits_12 : decode cX12_bits 12 = .ok (.iload_n 2, 1) := by decide +kernel
theorem dX12_bits_13 : decode cX12_bits 13 = .ok (.ishr, 1) := by decide +kernel
theorem dX12_bits_14 : decode cX12_bits 14 = .ok (.iconst 1, 1) := by decide +kernel
theorem dX12_bits_15 : decode cX12_bits 15 = .ok (.iand, 1) := by decide +kernel
theorem dX12_bits_16 : decode cX12_bits 16 = .ok (.iadd, 1) := by decide +kernel
theorem dX12_bits_17 : decode cX12_bits 17 = .ok (.istore_n 1, 1) := by decide +kernel
theorem dX12_bits_18 : decode cX12_bits 18 = .ok (.iinc 2 1, 3) := by decide +kernel
theorem dX12_bits_21 : decode cX12_bits 21 = .ok (.goto (-17), 3) := by decide +kernel
theorem dX12_bits_24 : decode cX12_bits 24 = .ok (.iload_n 1, 1) := by decide +kernel
theorem dX12_bits_25 : decode cX12_bits 25 = .ok (.ireturn, 1) := by decide +kernel
theorem dX12_has_0 : decode cX12_has 0 = .ok (.iload_n 0, 1) := by decide +kernel
theorem dX12_has_1 : decode cX12_has 1 = .ok (.iload_n 1, 1) := by decide +kernel
theorem dX12_has_2 : decode cX12_has 2 = .ok (.ishr, 1) := by decide +kernel
theorem dX12_has_3 : decode cX12_has 3 = .ok (.iconst 1, 1) := by decide +kernel
theorem dX12_has_4 : decode cX12_has 4 = .ok (.iand, 1) := by decide +kernel
theorem dX12_has_5 : decode cX12_has 5 = .ok (.iconst 1, 1) := by decide +kernel
theorem dX12_has_6 : decode cX12_has 6 = .ok (.if_icmp .ne 7, 3) := by decide +kernel
theorem dX12_has_9 : decode cX12_has 9 = .ok (.iconst 1, 1) := by decide +kernel
theorem dX12_has_10 : decode cX12_has 10 = .ok (.goto 4, 3) := by decide +kernel
theorem dX12_has_13 : decode cX12_has 13 = .ok (.iconst 0, 1) := by decide +kernel
theorem dX12_has_14 : decode cX12_has 14 = .ok (.ireturn, 1) := by decide +kernel
theorem dX12_isStreet_0 : decode cX12_isStreet 0 = .ok (.aload_n 0, 1) := by decide +kernel
theorem dX12_isStreet_1 : decode cX12_isStreet 1 = .ok (.getfield 9, 3) := by decide +kernel
theorem dX12_isStreet_4 : decode cX12_isStreet 4 = .ok (.iconst 0, 1) := by decide +kernel
theorem dX12_isStreet_5 : decode cX12_isStreet 5 = .ok (.iaload, 1) := by decide +kernel
theorem dX12_isStreet_6 : decode cX12_isStreet 6 = .ok (.ifCond .le 7, 3) := by decide +kernel
theorem dX12_isStreet_9 : decode cX12_isStreet 9 = .ok (.iconst 1, 1) := by decide +kernel
theorem dX12_isStreet_10 : decode cX12_isStreet 10 = .ok (.goto 4, 3) := by decide +kernel
theorem dX12_isStreet_13 : decode cX12_isStreet 13 = .ok (.iconst 0, 1) := by decide +kernel
theorem dX12_isStreet_14 : decode cX12_isStreet 14 = .ok (.ireturn, 1) := by decide +kernel
theorem dX12_isThing_0 : decode cX12_isThing 0 = .ok (.iload_n 1, 1) := by decide +kernel
theorem dX12_isThing_1 : decode cX12_isThing 1 = .ok (.i2l, 1) := by decide +kernel
theorem dX12_isThing_2 : decode cX12_isThing 2 = .ok (.lconst 0, 1) := by decide +kernel
theorem dX12_isThing_3 : decode cX12_isThing 3 = .ok (.aload_n 0, 1) := by decide +kernel
theorem dX12_isThing_4 : decode cX12_isThing 4 = .ok (.getfield 9, 3) := by decide +kernel
theorem dX12_isThing_7 : decode cX12_isThing 7 = .ok (.iconst 3, 1) := by decide +kernel
theorem dX12_isThing_8 : decode cX12_isThing 8 = .ok (.iaload, 1) := by decide +kernel
theorem dX12_isThing_9 : decode cX12_isThing 9 = .ok (.iconst 1, 1) := by decide +kernel
theorem dX12_isThing_10 : decode cX12_isThing 10 = .ok (.isub, 1) := by decide +kernel
theorem dX12_isThing_11 : decode cX12_isThing 11 = .ok (.i2l, 1) := by decide +kernel
theorem dX12_isThing_12 : decode cX12_isThing 12 = .ok (.invokestatic 164, 3) := by decide +kernel
theorem dX12_isThing_15 : decode cX12_isThing 15 = .ok (.ireturn, 1) := by decide +kernel
theorem dX12_isCell_0 : decode cX12_isCell 0 = .ok (.iload_n 1, 1) := by decide +kernel
theorem dX12_isCell_1 : decode cX12_isCell 1 = .ok (.i2l, 1) := by decide +kernel
theorem dX12_isCell_2 : decode cX12_isCell 2 = .ok (.lconst 0, 1) := by decide +kernel
theorem dX12_isCell_3 : decode cX12_isCell 3 = .ok (.aload_n 0, 1) := by decide +kernel
theorem dX12_isCell_4 : decode cX12_isCell 4 = .ok (.getfield 9, 3) := by decide +kernel
theorem dX12_isCell_7 : decode cX12_isCell 7 = .ok (.iconst 4, 1) := by decide +kernel
theorem dX12_isCell_8 : decode cX12_isCell 8 = .ok (.iaload, 1) := by decide +kernel
theorem dX12_isCell_9 : decode cX12_isCell 9 = .ok (.iconst 1, 1) := by decide +kernel
theorem dX12_isCell_10 : decode cX12_isCell 10 = .ok (.isub, 1) := by decide +kernel
theorem dX12_isCell_11 : decode cX12_isCell 11 = .ok (.i2l, 1) := by decide +kernel
theorem dX12_isCell_12 : decode cX12_isCell 12 = .ok (.invokestatic 164, 3) := by decide +kernel
theorem dX12_isCell_15 : decode cX12_isCell 15 = .ok (.ireturn, 1) := by decide +kernel
theorem dX12_isPainter_0 : decode cX12_isPainter 0 = .ok (.iload_n 1, 1) := by decide +kernel
theorem dX12_isPainter_1 : decode cX12_isPainter 1 = .ok (.i2l, 1) := by decide +kernel
theorem dX12_isPainter_2 : decode cX12_isPainter 2 = .ok (.lconst 0, 1) := by decide +kernel
theorem dX12_isPainter_3 : decode cX12_isPainter 3 = .ok (.aload_n 0, 1) := by decide +kernel
theorem dX12_isPainter_4 : decode cX12_isPainter 4 = .ok (.getfield 9, 3) := by decide +kernel
theorem dX12_isPainter_7 : decode cX12_isPainter 7 = .ok (.iconst 5, 1) := by decide +kernel
theorem dX12_isPainter_8 : decode cX12_isPainter 8 = .ok (.iaload, 1) := by decide +kernel
theorem dX12_isPainter_9 : decode cX12_isPainter 9 = .ok (.iconst 1, 1) := by decide +kernel
theorem dX12_isPainter_10 : decode cX12_isPainter 10 = .ok (.isub, 1) := by decide +kernel
theorem dX12_isPainter_11 : decode cX12_isPainter 11 = .ok (.i2l, 1) := by decide +kernel
theorem dX12_isPainter_12 : decode cX12_isPainter 12 = .ok (.invokestatic 164, 3) := by decide +kernel
theorem dX12_isPainter_15 : decode cX12_isPainter 15 = .ok (.ireturn, 1) := by decide +kernel
theorem dX12_feed_0 : decode cX12_feed 0 = .ok (.aload_n 0, 1) := by decide +kernel
theorem dX12_feed_1 : decode cX12_feed 1 = .ok (.getfield 168, 3) := by decide +kernel
theorem dX12_feed_4 : decode cX12_feed 4 = .ok (.bipush 20, 2) := by decide +kernel
theorem dX12_feed_6 : decode cX12_feed 6 = .ok (.iadd, 1) := by decide +kernel
theorem dX12_feed_7 : decode cX12_feed 7 = .ok (.sipush 400, 3) := by decide +kernel
theorem dX12_feed_10 : decode cX12_feed 10 = .ok (.if_icmp .le 5, 3) := by decide +kernel
theorem dX12_feed_13 : decode cX12_feed 13 = .ok (.iconst (-1), 1) := by decide +kernel
theorem dX12_feed_14 : decode cX12_feed 14 = .ok (.ireturn, 1) := by decide +kernel
theorem dX12_feed_15 : decode cX12_feed 15 = .ok (.aload_n 0, 1) := by decide +kernel
theorem dX12_feed_16 : decode cX12_feed 16 = .ok (.iload_n 1, 1) := by decide +kernel
theorem dX12_feed_17 : decode cX12_feed 17 = .ok (.invokevirtual 171, 3) := by decide +kernel
theorem dX12_feed_20 : decode cX12_feed 20 = .ok (.aload_n 0, 1) := by decide +kernel
theorem dX12_feed_21 : decode cX12_feed 21 = .ok (.iload_n 2, 1) := by decide +kernel
theorem dX12_feed_22 : decode cX12_feed 22 = .ok (.invokevirtual 171, 3) := by decide +kernel
theorem dX12_feed_25 : decode cX12_feed 25 = .ok (.aload_n 0, 1) := by decide +kernel
theorem dX12_feed_26 : decode cX12_feed 26 = .ok (.iload_n 3, 1) := by decide +kernel
theorem dX12_feed_27 : decode cX12_feed 27 = .ok (.invokevirtual 171, 3) := by decide +kernel
theorem dX12_feed_30 : decode cX12_feed 30 = .ok (.aload_n 0, 1) := by decide +kernel
theorem dX12_feed_31 : decode cX12_feed 31 = .ok (.iload 4, 2) := by decide +kernel
theorem dX12_feed_33 : decode cX12_feed 33 = .ok (.invokevirtual 171, 3) := by decide +kernel
theorem dX12_feed_36 : decode cX12_feed 36 = .ok (.aload_n 0, 1) := by decide +kernel
theorem dX12_feed_37 : decode cX12_feed 37 = .ok (.iload 5, 2) := by decide +kernel
theorem dX12_feed_39 : decode cX12_feed 39 = .ok (.invokevirtual 171, 3) := by decide +kernel
theorem dX12_feed_42 : decode cX12_feed 42 = .ok (.aload_n 0, 1) := by decide +kernel
theorem dX12_feed_43 : decode cX12_feed 43 = .ok (.getfield 168, 3) := by decide +kernel
theorem dX12_feed_46 : decode cX12_feed 46 = .ok (.ireturn, 1) := by decide +kernel
theorem dX12_put_0 : decode cX12_put 0 = .ok (.bipush 24, 2) := by decide +kernel
theorem dX12_put_2 : decode cX12_put 2 = .ok (.istore_n 2, 1) := by decide +kernel
theorem dX12_put_3 : decode cX12_put 3 = .ok (.iload_n 2, 1) := by decide +kernel
theorem dX12_put_4 : decode cX12_put 4 = .ok (.ifCond .lt 32, 3) := by decide +kernel
theorem dX12_put_7 : decode cX12_put 7 = .ok (.aload_n 0, 1) := by decide +kernel
theorem dX12_put_8 : decode cX12_put 8 = .ok (.getfield 92, 3) := by decide +kernel
theorem dX12_put_11 : decode cX12_put 11 = .ok (.aload_n 0, 1) := by decide +kernel
theorem dX12_put_12 : decode cX12_put 12 = .ok (.getfield 168, 3) := by decide +kernel
theorem dX12_put_15 : decode cX12_put 15 = .ok (.iload_n 1, 1) := by decide +kernel
theorem dX12_put_16 : decode cX12_put 16 = .ok (.iload_n 2, 1) := by decide +kernel
theorem dX12_put_17 : decode cX12_put 17 = .ok (.ishr, 1) := by decide +kernel
theorem dX12_put_18 : decode cX12_put 18 = .ok (.i2b, 1) := by decide +kernel
theorem dX12_put_19 : decode cX12_put 19 = .ok (.bastore, 1) := by decide +kernel
theorem dX12_put_20 : decode cX12_put 20 = .ok (.aload_n 0, 1) := by decide +kernel
theorem dX12_put_21 : decode cX12_put 21 = .ok (.dup, 1) := by decide +kernel
theorem dX12_put_22 : decode cX12_put 22 = .ok (.getfield 168, 3) := by decide +kernel
theorem dX12_put_25 : decode cX12_put 25 = .ok (.iconst 1, 1) := by decide +kernel
theorem dX12_put_26 : decode cX12_put 26 = .ok (.iadd, 1) := by decide +kernel
theorem dX12_put_27 : decode cX12_put 27 = .ok (.putfield 168, 3) := by decide +kernel
theorem dX12_put_30 : decode cX12_put 30 = .ok (.iinc 2 (-8), 3) := by decide +kernel
theorem dX12_put_33 : decode cX12_put 33 = .ok (.goto (-30), 3) := by decide +kernel
theorem dX12_put_36 : decode cX12_put 36 = .ok (.return_, 1) := by decide +kernel
theorem dX12_end_0 : decode cX12_end 0 = .ok (.iload_n 1, 1) := by decide +kernel
theorem dX12_end_1 : decode cX12_end 1 = .ok (.ifCond .lt 11, 3) := by decide +kernel
theorem dX12_end_4 : decode cX12_end 4 = .ok (.iload_n 1, 1) := by decide +kernel
theorem dX12_end_5 : decode cX12_end 5 = .ok (.aload_n 0, 1) := by decide +kernel
theorem dX12_end_6 : decode cX12_end 6 = .ok (.getfield 168, 3) := by decide +kernel
theorem dX12_end_9 : decode cX12_end 9 = .ok (.if_icmp .le 5, 3) := by decide +kernel
theorem dX12_end_12 : decode cX12_end 12 = .ok (.iconst (-1), 1) := by decide +kernel
theorem dX12_end_13 : decode cX12_end 13 = .ok (.ireturn, 1) := by decide +kernel
theorem dX12_end_14 : decode cX12_end 14 = .ok (.aload_n 0, 1) := by decide +kernel
theorem dX12_end_15 : decode cX12_end 15 = .ok (.iload_n 1, 1) := by decide +kernel
theorem dX12_end_16 : decode cX12_end 16 = .ok (.putfield 168, 3) := by decide +kernel
theorem dX12_end_19 : decode cX12_end 19 = .ok (.iload_n 1, 1) := by decide +kernel
theorem dX12_end_20 : decode cX12_end 20 = .ok (.ireturn, 1) := by decide +kernel
theorem dX12_wordOf_0 : decode cX12_wordOf 0 = .ok (.iload_n 0, 1) := by decide +kernel
theorem dX12_wordOf_1 : decode cX12_wordOf 1 = .ok (.tableswitch 99 0 11 #[63, 66, 69, 72, 75, 78, 81, 84, 87, 90, 93, 96], 63) := by decide +kernel
theorem dX12_wordOf_64 : decode cX12_wordOf 64 = .ok (.ldc 175, 2) := by decide +kernel
theorem dX12_wordOf_66 : decode cX12_wordOf 66 = .ok (.areturn, 1) := by decide +kernel
theorem dX12_wordOf_67 : decode cX12_wordOf 67 = .ok (.ldc 177, 2) := by decide +kernel
theorem dX12_wordOf_69 : decode cX12_wordOf 69 = .ok (.areturn, 1) := by decide +kernel
theorem dX12_wordOf_70 : decode cX12_wordOf 70 = .ok (.ldc 179, 2) := by decide +kernel
theorem dX12_wordOf_72 : decode cX12_wordOf 72 = .ok (.areturn, 1) := by decide +kernel
theorem dX12_wordOf_73 : decode cX12_wordOf 73 = .ok (.ldc 181, 2) := by decide +kernel
theorem dX12_wordOf_75 : decode cX12_wordOf 75 = .ok (.areturn, 1) := by decide +kernel
theorem dX12_wordOf_76 : decode cX12_wordOf 76 = .ok (.ldc 182, 2) := by decide +kernel
theorem dX12_wordOf_78 : decode cX12_wordOf 78 = .ok (.areturn, 1) := by decide +kernel
theorem dX12_wordOf_79 : decode cX12_wordOf 79 = .ok (.ldc 184, 2) := by decide +kernel
theorem dX12_wordOf_81 : decode cX12_wordOf 81 = .ok (.areturn, 1) := by decide +kernel
theorem dX12_wordOf_82 : decode cX12_wordOf 82 = .ok (.ldc 186, 2) := by decide +kernel
theorem dX12_wordOf_84 : decode cX12_wordOf 84 = .ok (.areturn, 1) := by decide +kernel
theorem dX12_wordOf_85 : decode cX12_wordOf 85 = .ok (.ldc 188, 2) := by decide +kernel
theorem dX12_wordOf_87 : decode cX12_wordOf 87 = .ok (.areturn, 1) := by decide +kernel
theorem dX12_wordOf_88 : decode cX12_wordOf 88 = .ok (.ldc 190, 2) := by decide +kernel
theorem dX12_wordOf_90 : decode cX12_wordOf 90 = .ok (.areturn, 1) := by decide +kernel
theorem dX12_wordOf_91 : decode cX12_wordOf 91 = .ok (.ldc 192, 2) := by decide +kernel
theorem dX12_wordOf_93 : decode cX12_wordOf 93 = .ok (.areturn, 1) := by decide +kernel
theorem dX12_wordOf_94 : decode cX12_wordOf 94 = .ok (.ldc 194, 2) := by decide +kernel
theorem dX12_wordOf_96 : decode cX12_wordOf 96 = .ok (.areturn, 1) := by decide +kernel
theorem dX12_wordOf_97 : decode cX12_wordOf 97 = .ok (.ldc 195, 2) := by decide +kernel
theorem dX12_wordOf_99 : decode cX12_wordOf 99 = .ok (.areturn, 1) := by decide +kernel
theorem dX12_wordOf_100 : decode cX12_wordOf 100 = .ok (.ldc 197, 2) := by decide +kernel
theorem dX12_wordOf_102 : decode cX12_wordOf 102 = .ok (.areturn, 1) := by decide +kernel
theorem dX12_fails_0 : decode cX12_fails 0 = .ok (.aload_n 0, 1) := by decide +kernel
theorem dX12_fails_1 : decode cX12_fails 1 = .ok (.aload_n 0, 1) := by decide +kernel
theorem dX12_fails_2 : decode cX12_fails 2 = .ok (.getfield 199, 3) := by decide +kernel
theorem dX12_fails_5 : decode cX12_fails 5 = .ok (.ifCond .ne 14, 3) := by decide +kernel
theorem dX12_fails_8 : decode cX12_fails 8 = .ok (.iconst 1, 1) := by decide +kernel
theorem dX12_fails_9 : decode cX12_fails 9 = .ok (.bipush 8, 2) := by decide +kernel
theorem dX12_fails_11 : decode cX12_fails 11 = .ok (.iload_n 2, 1) := by decide +kernel
theorem dX12_fails_12 : decode cX12_fails 12 = .ok (.imul, 1) := by decide +kernel
theorem dX12_fails_13 : decode cX12_fails 13 = .ok (.iadd, 1) := by decide +kernel
theorem dX12_fails_14 : decode cX12_fails 14 = .ok (.iload_n 1, 1) := by decide +kernel
theorem dX12_fails_15 : decode cX12_fails 15 = .ok (.iadd, 1) := by decide +kernel
theorem dX12_fails_16 : decode cX12_fails 16 = .ok (.goto 7, 3) := by decide +kernel
theorem dX12_fails_19 : decode cX12_fails 19 = .ok (.aload_n 0, 1) := by decide +kernel
theorem dX12_fails_20 : decode cX12_fails 20 = .ok (.getfield 199, 3) := by decide +kernel
theorem dX12_fails_23 : decode cX12_fails 23 = .ok (.putfield 199, 3) := by decide +kernel
theorem dX12_fails_26 : decode cX12_fails 26 = .ok (.return_, 1) := by decide +kernel
theorem dX12_sign_0 : decode cX12_sign 0 = .ok (.aload_n 0, 1) := by decide +kernel
theorem dX12_sign_1 : decode cX12_sign 1 = .ok (.getfield 202, 3) := by decide +kernel
theorem dX12_sign_4 : decode cX12_sign 4 = .ok (.aload_n 0, 1) := by decide +kernel
theorem dX12_sign_5 : decode cX12_sign 5 = .ok (.getfield 168, 3) := by decide +kernel
theorem dX12_sign_8 : decode cX12_sign 8 = .ok (.if_icmp .ge 19, 3) := by decide +kernel
theorem dX12_sign_11 : decode cX12_sign 11 = .ok (.aload_n 0, 1) := by decide +kernel
theorem dX12_sign_12 : decode cX12_sign 12 = .ok (.getfield 92, 3) := by decide +kernel
theorem dX12_sign_15 : decode cX12_sign 15 = .ok (.aload_n 0, 1) := by decide +kernel
theorem dX12_sign_16 : decode cX12_sign 16 = .ok (.getfield 202, 3) := by decide +kernel
theorem dX12_sign_19 : decode cX12_sign 19 = .ok (.baload, 1) := by decide +kernel
theorem dX12_sign_20 : decode cX12_sign 20 = .ok (.sipush 255, 3) := by decide +kernel
theorem dX12_sign_23 : decode cX12_sign 23 = .ok (.iand, 1) := by decide +kernel
theorem dX12_sign_24 : decode cX12_sign 24 = .ok (.goto 4, 3) := by decide +kernel
theorem dX12_sign_27 : decode cX12_sign 27 = .ok (.iconst (-1), 1) := by decide +kernel
theorem dX12_sign_28 : decode cX12_sign 28 = .ok (.ireturn, 1) := by decide +kernel
theorem dX12_blanks_0 : decode cX12_blanks 0 = .ok (.aload_n 0, 1) := by decide +kernel
theorem dX12_blanks_1 : decode cX12_blanks 1 = .ok (.invokevirtual 205, 3) := by decide +kernel
theorem dX12_blanks_4 : decode cX12_blanks 4 = .ok (.bipush 32, 2) := by decide +kernel
theorem dX12_blanks_6 : decode cX12_blanks 6 = .ok (.if_icmp .ne 16, 3) := by decide +kernel
theorem dX12_blanks_9 : decode cX12_blanks 9 = .ok (.aload_n 0, 1) := by decide +kernel
theorem dX12_blanks_10 : decode cX12_blanks 10 = .ok (.dup, 1) := by decide +kernel
theorem dX12_blanks_11 : decode cX12_blanks 11 = .ok (.getfield 202, 3) := by decide +kernel
theorem dX12_blanks_14 : decode cX12_blanks 14 = .ok (.iconst 1, 1) := by decide +kernel
theorem dX12_blanks_15 : decode cX12_blanks 15 = .ok (.iadd, 1) := by decide +kernel
theorem dX12_blanks_16 : decode cX12_blanks 16 = .ok (.putfield 202, 3) := by decide +kernel
theorem dX12_blanks_19 : decode cX12_blanks 19 = .ok (.goto (-19), 3) := by decide +kernel
theorem dX12_blanks_22 : decode cX12_blanks 22 = .ok (.return_, 1) := by decide +kernel
theorem dX12_isDigit_0 : decode cX12_isDigit 0 = .ok (.aload_n 0, 1) := by decide +kernel
theorem dX12_isDigit_1 : decode cX12_isDigit 1 = .ok (.invokevirtual 205, 3) := by decide +kernel
theorem dX12_isDigit_4 : decode cX12_isDigit 4 = .ok (.i2l, 1) := by decide +kernel
theorem dX12_isDigit_5 : decode cX12_isDigit 5 = .ok (.ldc2_w 209, 3) := by decide +kernel
theorem dX12_isDigit_8 : decode cX12_isDigit 8 = .ok (.ldc2_w 211, 3) := by decide +kernel
theorem dX12_isDigit_11 : decode cX12_isDigit 11 = .ok (.invokestatic 164, 3) := by decide +kernel
theorem dX12_isDigit_14 : decode cX12_isDigit 14 = .ok (.ireturn, 1) := by decide +kernel
theorem dX12_stood_0 : decode cX12_stood 0 = .ok (.aload_n 0, 1) := by decide +kernel
theorem dX12_stood_1 : decode cX12_stood 1 = .ok (.getfield 202, 3) := by decide +kernel
theorem dX12_stood_4 : decode cX12_stood 4 = .ok (.istore_n 2, 1) := by decide +kernel
theorem dX12_stood_5 : decode cX12_stood 5 = .ok (.iload_n 2, 1) := by decide +kernel
theorem dX12_stood_6 : decode cX12_stood 6 = .ok (.aload_n 0, 1) := by decide +kernel
theorem dX12_stood_7 : decode cX12_stood 7 = .ok (.getfield 168, 3) := by decide +kernel
theorem dX12_stood_10 : decode cX12_stood 10 = .ok (.if_icmp .ge 31, 3) := by decide +kernel
theorem dX12_stood_13 : decode cX12_stood 13 = .ok (.aload_n 0, 1) := by decide +kernel
theorem dX12_stood_14 : decode cX12_stood 14 = .ok (.getfield 92, 3) := by decide +kernel
theorem dX12_stood_17 : decode cX12_stood 17 = .ok (.iload_n 2, 1) := by decide +kernel
theorem dX12_stood_18 : decode cX12_stood 18 = .ok (.baload, 1) := by decide +kernel
theorem dX12_stood_19 : decode cX12_stood 19 = .ok (.bipush 97, 2) := by decide +kernel
theorem dX12_stood_21 : decode cX12_stood 21 = .ok (.if_icmp .lt 20, 3) := by decide +kernel
theorem dX12_stood_24 : decode cX12_stood 24 = .ok (.aload_n 0, 1) := by decide +kernel
theorem dX12_stood_25 : decode cX12_stood 25 = .ok (.getfield 92, 3) := by decide +kernel
theorem dX12_stood_28 : decode cX12_stood 28 = .ok (.iload_n 2, 1) := by decide +kernel
theorem dX12_stood_29 : decode cX12_stood 29 = .ok (.baload, 1) := by decide +kernel
theorem dX12_stood_30 : decode cX12_stood 30 = .ok (.bipush 122, 2) := by decide +kernel
theorem dX12_stood_32 : decode cX12_stood 32 = .ok (.if_icmp .gt 9, 3) := by decide +kernel
theorem dX12_stood_35 : decode cX12_stood 35 = .ok (.iinc 2 1, 3) := by decide +kernel
theorem dX12_stood_38 : decode cX12_stood 38 = .ok (.goto (-33), 3) := by decide +kernel
theorem dX12_stood_41 : decode cX12_stood 41 = .ok (.iload_n 2, 1) := by decide +kernel
theorem dX12_stood_42 : decode cX12_stood 42 = .ok (.aload_n 0, 1) := by decide +kernel
theorem dX12_stood_43 : decode cX12_stood 43 = .ok (.getfield 202, 3) := by decide +kernel
theorem dX12_stood_46 : decode cX12_stood 46 = .ok (.isub, 1) := by decide +kernel
theorem dX12_stood_47 : decode cX12_stood 47 = .ok (.aload_n 1, 1) := by decide +kernel
theorem dX12_stood_48 : decode cX12_stood 48 = .ok (.invokevirtual 213, 3) := by decide +kernel
theorem dX12_stood_51 : decode cX12_stood 51 = .ok (.if_icmp .ne 7, 3) := by decide +kernel
theorem dX12_stood_54 : decode cX12_stood 54 = .ok (.iconst 1, 1) := by decide +kernel
theorem dX12_stood_55 : decode cX12_stood 55 = .ok (.goto 4, 3) := by decide +kernel
theorem dX12_stood_58 : decode cX12_stood 58 = .ok (.iconst 0, 1) := by decide +kernel
theorem dX12_stood_59 : decode cX12_stood 59 = .ok (.istore_n 3, 1) := by decide +kernel
theorem dX12_stood_60 : decode cX12_stood 60 = .ok (.iconst 0, 1) := by decide +kernel
theorem dX12_stood_61 : decode cX12_stood 61 = .ok (.istore 4, 2) := by decide +kernel
theorem dX12_stood_63 : decode cX12_stood 63 = .ok (.iload 4, 2) := by decide +kernel
theorem dX12_stood_65 : decode cX12_stood 65 = .ok (.aload_n 1, 1) := by decide +kernel
theorem dX12_stood_66 : decode cX12_stood 66 = .ok (.invokevirtual 213, 3) := by decide +kernel
theorem dX12_stood_69 : decode cX12_stood 69 = .ok (.if_icmp .ge 40, 3) := by decide +kernel
theorem dX12_stood_72 : decode cX12_stood 72 = .ok (.iload_n 3, 1) := by decide +kernel
theorem dX12_stood_73 : decode cX12_stood 73 = .ok (.ifCond .eq 36, 3) := by decide +kernel
theorem dX12_stood_76 : decode cX12_stood 76 = .ok (.aload_n 0, 1) := by decide +kernel
theorem dX12_stood_77 : decode cX12_stood 77 = .ok (.getfield 92, 3) := by decide +kernel
theorem dX12_stood_80 : decode cX12_stood 80 = .ok (.aload_n 0, 1) := by decide +kernel
theorem dX12_stood_81 : decode cX12_stood 81 = .ok (.getfield 202, 3) := by decide +kernel
theorem dX12_stood_84 : decode cX12_stood 84 = .ok (.iload 4, 2) := by decide +kernel
theorem dX12_stood_86 : decode cX12_stood 86 = .ok (.iadd, 1) := by decide +kernel
theorem dX12_stood_87 : decode cX12_stood 87 = .ok (.baload, 1) := by decide +kernel
theorem dX12_stood_88 : decode cX12_stood 88 = .ok (.aload_n 1, 1) := by decide +kernel
theorem dX12_stood_89 : decode cX12_stood 89 = .ok (.iload 4, 2) := by decide +kernel
theorem dX12_stood_91 : decode cX12_stood 91 = .ok (.invokevirtual 218, 3) := by decide +kernel
theorem dX12_stood_94 : decode cX12_stood 94 = .ok (.if_icmp .ne 7, 3) := by decide +kernel
theorem dX12_stood_97 : decode cX12_stood 97 = .ok (.iconst 1, 1) := by decide +kernel
theorem dX12_stood_98 : decode cX12_stood 98 = .ok (.goto 4, 3) := by decide +kernel
theorem dX12_stood_101 : decode cX12_stood 101 = .ok (.iconst 0, 1) := by decide +kernel
theorem dX12_stood_102 : decode cX12_stood 102 = .ok (.istore_n 3, 1) := by decide +kernel
theorem dX12_stood_103 : decode cX12_stood 103 = .ok (.iinc 4 1, 3) := by decide +kernel
theorem dX12_stood_106 : decode cX12_stood 106 = .ok (.goto (-43), 3) := by decide +kernel
theorem dX12_stood_109 : decode cX12_stood 109 = .ok (.iload_n 3, 1) := by decide +kernel
theorem dX12_stood_110 : decode cX12_stood 110 = .ok (.ireturn, 1) := by decide +kernel
theorem dX12_takes_0 : decode cX12_takes 0 = .ok (.aload_n 0, 1) := by decide +kernel
theorem dX12_takes_1 : decode cX12_takes 1 = .ok (.invokevirtual 222, 3) := by decide +kernel
theorem dX12_takes_4 : decode cX12_takes 4 = .ok (.aload_n 0, 1) := by decide +kernel
theorem dX12_takes_5 : decode cX12_takes 5 = .ok (.aload_n 1, 1) := by decide +kernel
theorem dX12_takes_6 : decode cX12_takes 6 = .ok (.invokevirtual 225, 3) := by decide +kernel
theorem dX12_takes_9 : decode cX12_takes 9 = .ok (.istore_n 2, 1) := by decide +kernel
theorem dX12_takes_10 : decode cX12_takes 10 = .ok (.aload_n 0, 1) := by decide +kernel
theorem dX12_takes_11 : decode cX12_takes 11 = .ok (.dup, 1) := by decide +kernel
theorem dX12_takes_12 : decode cX12_takes 12 = .ok (.getfield 202, 3) := by decide +kernel
theorem dX12_takes_15 : decode cX12_takes 15 = .ok (.iload_n 2, 1) := by decide +kernel
theorem dX12_takes_16 : decode cX12_takes 16 = .ok (.ifCond .eq 10, 3) := by decide +kernel
theorem dX12_takes_19 : decode cX12_takes 19 = .ok (.aload_n 1, 1) := by decide +kernel
theorem dX12_takes_20 : decode cX12_takes 20 = .ok (.invokevirtual 213, 3) := by decide +kernel
theorem dX12_takes_23 : decode cX12_takes 23 = .ok (.goto 4, 3) := by decide +kernel
theorem dX12_takes_26 : decode cX12_takes 26 = .ok (.iconst 0, 1) := by decide +kernel
theorem dX12_takes_27 : decode cX12_takes 27 = .ok (.iadd, 1) := by decide +kernel
theorem dX12_takes_28 : decode cX12_takes 28 = .ok (.putfield 202, 3) := by decide +kernel
theorem dX12_takes_31 : decode cX12_takes 31 = .ok (.iload_n 2, 1) := by decide +kernel
theorem dX12_takes_32 : decode cX12_takes 32 = .ok (.ireturn, 1) := by decide +kernel
theorem dX12_entry_0 : decode cX12_entry 0 = .ok (.aload_n 0, 1) := by decide +kernel
theorem dX12_entry_1 : decode cX12_entry 1 = .ok (.getfield 199, 3) := by decide +kernel
theorem dX12_entry_4 : decode cX12_entry 4 = .ok (.ifCond .ne 51, 3) := by decide +kernel
theorem dX12_entry_7 : decode cX12_entry 7 = .ok (.aload_n 0, 1) := by decide +kernel
theorem dX12_entry_8 : decode cX12_entry 8 = .ok (.getfield 96, 3) := by decide +kernel
theorem dX12_entry_11 : decode cX12_entry 11 = .ok (.sipush 300, 3) := by decide +kernel
theorem dX12_entry_14 : decode cX12_entry 14 = .ok (.aload_n 0, 1) := by decide +kernel
theorem dX12_entry_15 : decode cX12_entry 15 = .ok (.getfield 229, 3) := by decide +kernel
theorem dX12_entry_18 : decode cX12_entry 18 = .ok (.imul, 1) := by decide +kernel
theorem dX12_entry_19 : decode cX12_entry 19 = .ok (.aload_n 0, 1) := by decide +kernel
theorem dX12_entry_20 : decode cX12_entry 20 = .ok (.getfield 232, 3) := by decide +kernel
theorem dX12_entry_23 : decode cX12_entry 23 = .ok (.iadd, 1) := by decide +kernel
theorem dX12_entry_24 : decode cX12_entry 24 = .ok (.iload_n 1, 1) := by decide +kernel
theorem dX12_entry_25 : decode cX12_entry 25 = .ok (.iastore, 1) := by decide +kernel
theorem dX12_entry_26 : decode cX12_entry 26 = .ok (.aload_n 0, 1) := by decide +kernel
theorem dX12_entry_27 : decode cX12_entry 27 = .ok (.getfield 99, 3) := by decide +kernel
theorem dX12_entry_30 : decode cX12_entry 30 = .ok (.sipush 300, 3) := by decide +kernel
theorem dX12_entry_33 : decode cX12_entry 33 = .ok (.aload_n 0, 1) := by decide +kernel
theorem dX12_entry_34 : decode cX12_entry 34 = .ok (.getfield 229, 3) := by decide +kernel
theorem dX12_entry_37 : decode cX12_entry 37 = .ok (.imul, 1) := by decide +kernel
theorem dX12_entry_38 : decode cX12_entry 38 = .ok (.aload_n 0, 1) := by decide +kernel
theorem dX12_entry_39 : decode cX12_entry 39 = .ok (.getfield 232, 3) := by decide +kernel
theorem dX12_entry_42 : decode cX12_entry 42 = .ok (.iadd, 1) := by decide +kernel
theorem dX12_entry_43 : decode cX12_entry 43 = .ok (.iload_n 2, 1) := by decide +kernel
theorem dX12_entry_44 : decode cX12_entry 44 = .ok (.iastore, 1) := by decide +kernel
theorem dX12_entry_45 : decode cX12_entry 45 = .ok (.aload_n 0, 1) := by decide +kernel
theorem dX12_entry_46 : decode cX12_entry 46 = .ok (.dup, 1) := by decide +kernel
theorem dX12_entry_47 : decode cX12_entry 47 = .ok (.getfield 232, 3) := by decide +kernel
theorem dX12_entry_50 : decode cX12_entry 50 = .ok (.iconst 1, 1) := by decide +kernel
theorem dX12_entry_51 : decode cX12_entry 51 = .ok (.iadd, 1) := by decide +kernel
theorem dX12_entry_52 : decode cX12_entry 52 = .ok (.putfield 232, 3) := by decide +kernel
theorem dX12_entry_55 : decode cX12_entry 55 = .ok (.return_, 1) := by decide +kernel
theorem dX12_isCounted_0 : decode cX12_isCounted 0 = .ok (.aload_n 0, 1) := by decide +kernel
theorem dX12_isCounted_1 : decode cX12_isCounted 1 = .ok (.getfield 235, 3) := by decide +kernel
theorem dX12_isCounted_4 : decode cX12_isCounted 4 = .ok (.bipush 60, 2) := by decide +kernel
theorem dX12_isCounted_6 : decode cX12_isCounted 6 = .ok (.if_icmp .ne 9, 3) := by decide +kernel
theorem dX12_isCounted_9 : decode cX12_isCounted 9 = .ok (.aload_n 0, 1) := by decide +kernel
theorem dX12_isCounted_10 : decode cX12_isCounted 10 = .ok (.iconst 3, 1) := by decide +kernel
theorem dX12_isCounted_11 : decode cX12_isCounted 11 = .ok (.iload_n 1, 1) := by decide +kernel
theorem dX12_isCounted_12 : decode cX12_isCounted 12 = .ok (.invokevirtual 238, 3) := by decide +kernel
theorem dX12_isCounted_15 : decode cX12_isCounted 15 = .ok (.aload_n 0, 1) := by decide +kernel
theorem dX12_isCounted_16 : decode cX12_isCounted 16 = .ok (.dup, 1) := by decide +kernel
theorem dX12_isCounted_17 : decode cX12_isCounted 17 = .ok (.getfield 235, 3) := by decide +kernel
theorem dX12_isCounted_20 : decode cX12_isCounted 20 = .ok (.iconst 1, 1) := by decide +kernel
theorem dX12_isCounted_21 : decode cX12_isCounted 21 = .ok (.iadd, 1) := by decide +kernel
theorem dX12_isCounted_22 : decode cX12_isCounted 22 = .ok (.putfield 235, 3) := by decide +kernel
theorem dX12_isCounted_25 : decode cX12_isCounted 25 = .ok (.return_, 1) := by decide +kernel
theorem dX12_digits_0 : decode cX12_digits 0 = .ok (.aload_n 0, 1) := by decide +kernel
theorem dX12_digits_1 : decode cX12_digits 1 = .ok (.invokevirtual 242, 3) := by decide +kernel
theorem dX12_digits_4 : decode cX12_digits 4 = .ok (.ifCond .ne 14, 3) := by decide +kernel
theorem dX12_digits_7 : decode cX12_digits 7 = .ok (.aload_n 0, 1) := by decide +kernel
theorem dX12_digits_8 : decode cX12_digits 8 = .ok (.iconst 0, 1) := by decide +kernel
theorem dX12_digits_9 : decode cX12_digits 9 = .ok (.aload_n 0, 1) := by decide +kernel
theorem dX12_digits_10 : decode cX12_digits 10 = .ok (.getfield 202, 3) := by decide +kernel
theorem dX12_digits_13 : decode cX12_digits 13 = .ok (.invokevirtual 238, 3) := by decide +kernel
theorem dX12_digits_16 : decode cX12_digits 16 = .ok (.iconst 0, 1) := by decide +kernel
theorem dX12_digits_17 : decode cX12_digits 17 = .ok (.ireturn, 1) := by decide +kernel
theorem dX12_digits_18 : decode cX12_digits 18 = .ok (.aload_n 0, 1) := by decide +kernel
theorem dX12_digits_19 : decode cX12_digits 19 = .ok (.getfield 202, 3) := by decide +kernel
theorem dX12_digits_22 : decode cX12_digits 22 = .ok (.istore_n 2, 1) := by decide +kernel
theorem dX12_digits_23 : decode cX12_digits 23 = .ok (.iconst 0, 1) := by decide +kernel
theorem dX12_digits_24 : decode cX12_digits 24 = .ok (.istore_n 3, 1) := by decide +kernel
theorem dX12_digits_25 : decode cX12_digits 25 = .ok (.aload_n 0, 1) := by decide +kernel
theorem dX12_digits_26 : decode cX12_digits 26 = .ok (.invokevirtual 242, 3) := by decide +kernel
theorem dX12_digits_29 : decode cX12_digits 29 = .ok (.ifCond .eq 43, 3) := by decide +kernel
theorem dX12_digits_32 : decode cX12_digits 32 = .ok (.aload_n 0, 1) := by decide +kernel
theorem dX12_digits_33 : decode cX12_digits 33 = .ok (.getfield 202, 3) := by decide +kernel
theorem dX12_digits_36 : decode cX12_digits 36 = .ok (.iload_n 2, 1) := by decide +kernel
theorem dX12_digits_37 : decode cX12_digits 37 = .ok (.isub, 1) := by decide +kernel
theorem dX12_digits_38 : decode cX12_digits 38 = .ok (.iconst 5, 1) := by decide +kernel
theorem dX12_digits_39 : decode cX12_digits 39 = .ok (.if_icmp .ge 18, 3) := by decide +kernel
theorem dX12_digits_42 : decode cX12_digits 42 = .ok (.bipush 10, 2) := by decide +kernel
theorem dX12_digits_44 : decode cX12_digits 44 = .ok (.iload_n 3, 1) := by decide +kernel
theorem dX12_digits_45 : decode cX12_digits 45 = .ok (.imul, 1) := by decide +kernel
theorem dX12_digits_46 : decode cX12_digits 46 = .ok (.aload_n 0, 1) := by decide +kernel
theorem dX12_digits_47 : decode cX12_digits 47 = .ok (.invokevirtual 205, 3) := by decide +kernel
theorem dX12_digits_50 : decode cX12_digits 50 = .ok (.iadd, 1) := by decide +kernel
theorem dX12_digits_51 : decode cX12_digits 51 = .ok (.bipush 48, 2) := by decide +kernel
theorem dX12_digits_53 : decode cX12_digits 53 = .ok (.isub, 1) := by decide +kernel
theorem dX12_digits_54 : decode cX12_digits 54 = .ok (.goto 4, 3) := by decide +kernel
theorem dX12_digits_57 : decode cX12_digits 57 = .ok (.iload_n 3, 1) := by decide +kernel
theorem dX12_digits_58 : decode cX12_digits 58 = .ok (.istore_n 3, 1) := by decide +kernel
theorem dX12_digits_59 : decode cX12_digits 59 = .ok (.aload_n 0, 1) := by decide +kernel
theorem dX12_digits_60 : decode cX12_digits 60 = .ok (.dup, 1) := by decide +kernel
theorem dX12_digits_61 : decode cX12_digits 61 = .ok (.getfield 202, 3) := by decide +kernel
theorem dX12_digits_64 : decode cX12_digits 64 = .ok (.iconst 1, 1) := by decide +kernel
theorem dX12_digits_65 : decode cX12_digits 65 = .ok (.iadd, 1) := by decide +kernel
theorem dX12_digits_66 : decode cX12_digits 66 = .ok (.putfield 202, 3) := by decide +kernel
theorem dX12_digits_69 : decode cX12_digits 69 = .ok (.goto (-44), 3) := by decide +kernel
theorem dX12_digits_72 : decode cX12_digits 72 = .ok (.aload_n 0, 1) := by decide +kernel
theorem dX12_digits_73 : decode cX12_digits 73 = .ok (.getfield 202, 3) := by decide +kernel
theorem dX12_digits_76 : decode cX12_digits 76 = .ok (.iload_n 2, 1) := by decide +kernel
theorem dX12_digits_77 : decode cX12_digits 77 = .ok (.isub, 1) := by decide +kernel
theorem dX12_digits_78 : decode cX12_digits 78 = .ok (.iconst 5, 1) := by decide +kernel
theorem dX12_digits_79 : decode cX12_digits 79 = .ok (.if_icmp .gt 8, 3) := by decide +kernel
theorem dX12_digits_82 : decode cX12_digits 82 = .ok (.iload_n 3, 1) := by decide +kernel
theorem dX12_digits_83 : decode cX12_digits 83 = .ok (.iload_n 1, 1) := by decide +kernel
theorem dX12_digits_84 : decode cX12_digits 84 = .ok (.if_icmp .le 9, 3) := by decide +kernel
theorem dX12_digits_87 : decode cX12_digits 87 = .ok (.aload_n 0, 1) := by decide +kernel
theorem dX12_digits_88 : decode cX12_digits 88 = .ok (.iconst 1, 1) := by decide +kernel
theorem dX12_digits_89 : decode cX12_digits 89 = .ok (.iload_n 2, 1) := by decide +kernel
theorem dX12_digits_90 : decode cX12_digits 90 = .ok (.invokevirtual 238, 3) := by decide +kernel
theorem dX12_digits_93 : decode cX12_digits 93 = .ok (.iload_n 3, 1) := by decide +kernel
theorem dX12_digits_94 : decode cX12_digits 94 = .ok (.ireturn, 1) := by decide +kernel
theorem dX12_value_0 : decode cX12_value 0 = .ok (.aload_n 0, 1) := by decide +kernel
theorem dX12_value_1 : decode cX12_value 1 = .ok (.invokevirtual 222, 3) := by decide +kernel
theorem dX12_value_4 : decode cX12_value 4 = .ok (.aload_n 0, 1) := by decide +kernel
theorem dX12_value_5 : decode cX12_value 5 = .ok (.getfield 202, 3) := by decide +kernel
theorem dX12_value_8 : decode cX12_value 8 = .ok (.istore_n 1, 1) := by decide +kernel
theorem dX12_value_9 : decode cX12_value 9 = .ok (.aload_n 0, 1) := by decide +kernel
theorem dX12_value_10 : decode cX12_value 10 = .ok (.invokevirtual 242, 3) := by decide +kernel
theorem dX12_value_13 : decode cX12_value 13 = .ok (.ifCond .eq 22, 3) := by decide +kernel
theorem dX12_value_16 : decode cX12_value 16 = .ok (.aload_n 0, 1) := by decide +kernel
theorem dX12_value_17 : decode cX12_value 17 = .ok (.ldc 246, 2) := by decide +kernel
theorem dX12_value_19 : decode cX12_value 19 = .ok (.invokevirtual 247, 3) := by decide +kernel
theorem dX12_value_22 : decode cX12_value 22 = .ok (.istore_n 2, 1) := by decide +kernel
theorem dX12_value_23 : decode cX12_value 23 = .ok (.aload_n 0, 1) := by decide +kernel
theorem dX12_value_24 : decode cX12_value 24 = .ok (.iload_n 1, 1) := by decide +kernel
theorem dX12_value_25 : decode cX12_value 25 = .ok (.invokevirtual 251, 3) := by decide +kernel
theorem dX12_value_28 : decode cX12_value 28 = .ok (.aload_n 0, 1) := by decide +kernel
theorem dX12_value_29 : decode cX12_value 29 = .ok (.iconst 0, 1) := by decide +kernel
theorem dX12_value_30 : decode cX12_value 30 = .ok (.iload_n 2, 1) := by decide +kernel
theorem dX12_value_31 : decode cX12_value 31 = .ok (.invokevirtual 254, 3) := by decide +kernel
theorem dX12_value_34 : decode cX12_value 34 = .ok (.return_, 1) := by decide +kernel
theorem dX12_value_35 : decode cX12_value 35 = .ok (.iconst 0, 1) := by decide +kernel
theorem dX12_value_36 : decode cX12_value 36 = .ok (.istore_n 2, 1) := by decide +kernel
theorem dX12_value_37 : decode cX12_value 37 = .ok (.iload_n 2, 1) := by decide +kernel
theorem dX12_value_38 : decode cX12_value 38 = .ok (.aload_n 0, 1) := by decide +kernel
theorem dX12_value_39 : decode cX12_value 39 = .ok (.getfield 88, 3) := by decide +kernel
theorem dX12_value_42 : decode cX12_value 42 = .ok (.if_icmp .ge 20, 3) := by decide +kernel
theorem dX12_value_45 : decode cX12_value 45 = .ok (.aload_n 0, 1) := by decide +kernel
theorem dX12_value_46 : decode cX12_value 46 = .ok (.iload_n 2, 1) := by decide +kernel
theorem dX12_value_47 : decode cX12_value 47 = .ok (.invokestatic 257, 3) := by decide +kernel
theorem dX12_value_50 : decode cX12_value 50 = .ok (.invokevirtual 225, 3) := by decide +kernel
theorem dX12_value_53 : decode cX12_value 53 = .ok (.ifCond .ne 9, 3) := by decide +kernel
theorem dX12_value_56 : decode cX12_value 56 = .ok (.iinc 2 1, 3) := by decide +kernel
theorem dX12_value_59 : decode cX12_value 59 = .ok (.goto (-22), 3) := by decide +kernel
theorem dX12_value_62 : decode cX12_value 62 = .ok (.iload_n 2, 1) := by decide +kernel
theorem dX12_value_63 : decode cX12_value 63 = .ok (.aload_n 0, 1) := by decide +kernel
theorem dX12_value_64 : decode cX12_value 64 = .ok (.getfield 88, 3) := by decide +kernel
theorem dX12_value_67 : decode cX12_value 67 = .ok (.if_icmp .ne 10, 3) := by decide +kernel
theorem dX12_value_70 : decode cX12_value 70 = .ok (.aload_n 0, 1) := by decide +kernel
theorem dX12_value_71 : decode cX12_value 71 = .ok (.iconst 0, 1) := by decide +kernel
