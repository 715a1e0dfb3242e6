theorem dX0_with_0 : decode cX0_with 0 = .ok (.iload_n 3, 1) := by decide +kernel
theorem dX0_with_1 : decode cX0_with 1 = .ok (.iconst 2, 1) := by decide +kernel
theorem dX0_with_2 : decode cX0_with 2 = .ok (.iadd, 1) := by decide +kernel
theorem dX0_with_3 : decode cX0_with 3 = .ok (.i2l, 1) := by decide +kernel
theorem dX0_with_4 : decode cX0_with 4 = .ok (.iconst 2, 1) := by decide +kernel
theorem dX0_with_5 : decode cX0_with 5 = .ok (.lshl, 1) := by decide +kernel
theorem dX0_with_6 : decode cX0_with 6 = .ok (.iload_n 2, 1) := by decide +kernel
theorem dX0_with_7 : decode cX0_with 7 = .ok (.i2l, 1) := by decide +kernel
theorem dX0_with_8 : decode cX0_with 8 = .ok (.lor, 1) := by decide +kernel
theorem dX0_with_9 : decode cX0_with 9 = .ok (.lstore 4, 2) := by decide +kernel
theorem dX0_with_11 : decode cX0_with 11 = .ok (.lload_n 0, 1) := by decide +kernel
theorem dX0_with_12 : decode cX0_with 12 = .ok (.bipush 12, 2) := by decide +kernel
theorem dX0_with_14 : decode cX0_with 14 = .ok (.lshl, 1) := by decide +kernel
theorem dX0_with_15 : decode cX0_with 15 = .ok (.lload 4, 2) := by decide +kernel
theorem dX0_with_17 : decode cX0_with 17 = .ok (.lor, 1) := by decide +kernel
theorem dX0_with_18 : decode cX0_with 18 = .ok (.ldc2_w 11, 3) := by decide +kernel
theorem dX0_with_21 : decode cX0_with 21 = .ok (.land, 1) := by decide +kernel
theorem dX0_with_22 : decode cX0_with 22 = .ok (.lreturn, 1) := by decide +kernel
theorem dX0_without_0 : decode cX0_without 0 = .ok (.iload_n 2, 1) := by decide +kernel
theorem dX0_without_1 : decode cX0_without 1 = .ok (.ifCond .lt 8, 3) := by decide +kernel
theorem dX0_without_4 : decode cX0_without 4 = .ok (.iload_n 2, 1) := by decide +kernel
theorem dX0_without_5 : decode cX0_without 5 = .ok (.iconst 5, 1) := by decide +kernel
theorem dX0_without_6 : decode cX0_without 6 = .ok (.if_icmp .lt 7, 3) := by decide +kernel
theorem dX0_without_9 : decode cX0_without 9 = .ok (.lconst 0, 1) := by decide +kernel
theorem dX0_without_10 : decode cX0_without 10 = .ok (.goto 9, 3) := by decide +kernel
theorem dX0_without_13 : decode cX0_without 13 = .ok (.lload_n 0, 1) := by decide +kernel
theorem dX0_without_14 : decode cX0_without 14 = .ok (.iload_n 2, 1) := by decide +kernel
theorem dX0_without_15 : decode cX0_without 15 = .ok (.bipush 12, 2) := by decide +kernel
theorem dX0_without_17 : decode cX0_without 17 = .ok (.imul, 1) := by decide +kernel
theorem dX0_without_18 : decode cX0_without 18 = .ok (.lushr, 1) := by decide +kernel
theorem dX0_without_19 : decode cX0_without 19 = .ok (.lreturn, 1) := by decide +kernel
theorem dX0_height_0 : decode cX0_height 0 = .ok (.iconst 0, 1) := by decide +kernel
theorem dX0_height_1 : decode cX0_height 1 = .ok (.istore_n 2, 1) := by decide +kernel
theorem dX0_height_2 : decode cX0_height 2 = .ok (.iload_n 2, 1) := by decide +kernel
theorem dX0_height_3 : decode cX0_height 3 = .ok (.iconst 5, 1) := by decide +kernel
theorem dX0_height_4 : decode cX0_height 4 = .ok (.if_icmp .ge 22, 3) := by decide +kernel
theorem dX0_height_7 : decode cX0_height 7 = .ok (.lload_n 0, 1) := by decide +kernel
theorem dX0_height_8 : decode cX0_height 8 = .ok (.iload_n 2, 1) := by decide +kernel
theorem dX0_height_9 : decode cX0_height 9 = .ok (.bipush 12, 2) := by decide +kernel
theorem dX0_height_11 : decode cX0_height 11 = .ok (.imul, 1) := by decide +kernel
theorem dX0_height_12 : decode cX0_height 12 = .ok (.lushr, 1) := by decide +kernel
theorem dX0_height_13 : decode cX0_height 13 = .ok (.lconst 0, 1) := by decide +kernel
theorem dX0_height_14 : decode cX0_height 14 = .ok (.lcmp, 1) := by decide +kernel
theorem dX0_height_15 : decode cX0_height 15 = .ok (.ifCond .ne 5, 3) := by decide +kernel
theorem dX0_height_18 : decode cX0_height 18 = .ok (.iload_n 2, 1) := by decide +kernel
theorem dX0_height_19 : decode cX0_height 19 = .ok (.ireturn, 1) := by decide +kernel
theorem dX0_height_20 : decode cX0_height 20 = .ok (.iinc 2 1, 3) := by decide +kernel
theorem dX0_height_23 : decode cX0_height 23 = .ok (.goto (-21), 3) := by decide +kernel
theorem dX0_height_26 : decode cX0_height 26 = .ok (.iconst 5, 1) := by decide +kernel
theorem dX0_height_27 : decode cX0_height 27 = .ok (.ireturn, 1) := by decide +kernel
theorem dX0_topPainter_0 : decode cX0_topPainter 0 = .ok (.lload_n 0, 1) := by decide +kernel
theorem dX0_topPainter_1 : decode cX0_topPainter 1 = .ok (.lconst 0, 1) := by decide +kernel
theorem dX0_topPainter_2 : decode cX0_topPainter 2 = .ok (.lcmp, 1) := by decide +kernel
theorem dX0_topPainter_3 : decode cX0_topPainter 3 = .ok (.ifCond .ne 7, 3) := by decide +kernel
theorem dX0_topPainter_6 : decode cX0_topPainter 6 = .ok (.iconst (-1), 1) := by decide +kernel
theorem dX0_topPainter_7 : decode cX0_topPainter 7 = .ok (.goto 9, 3) := by decide +kernel
theorem dX0_topPainter_10 : decode cX0_topPainter 10 = .ok (.lload_n 0, 1) := by decide +kernel
theorem dX0_topPainter_11 : decode cX0_topPainter 11 = .ok (.ldc2_w 13, 3) := by decide +kernel
theorem dX0_topPainter_14 : decode cX0_topPainter 14 = .ok (.land, 1) := by decide +kernel
theorem dX0_topPainter_15 : decode cX0_topPainter 15 = .ok (.l2i, 1) := by decide +kernel
theorem dX0_topPainter_16 : decode cX0_topPainter 16 = .ok (.ireturn, 1) := by decide +kernel
theorem dX0_topHour_0 : decode cX0_topHour 0 = .ok (.lload_n 0, 1) := by decide +kernel
theorem dX0_topHour_1 : decode cX0_topHour 1 = .ok (.iconst 2, 1) := by decide +kernel
theorem dX0_topHour_2 : decode cX0_topHour 2 = .ok (.lushr, 1) := by decide +kernel
theorem dX0_topHour_3 : decode cX0_topHour 3 = .ok (.ldc2_w 15, 3) := by decide +kernel
theorem dX0_topHour_6 : decode cX0_topHour 6 = .ok (.land, 1) := by decide +kernel
theorem dX0_topHour_7 : decode cX0_topHour 7 = .ok (.l2i, 1) := by decide +kernel
theorem dX0_topHour_8 : decode cX0_topHour 8 = .ok (.iconst 2, 1) := by decide +kernel
theorem dX0_topHour_9 : decode cX0_topHour 9 = .ok (.isub, 1) := by decide +kernel
theorem dX0_topHour_10 : decode cX0_topHour 10 = .ok (.ireturn, 1) := by decide +kernel
theorem dX0_aheadOf_0 : decode cX0_aheadOf 0 = .ok (.iconst 0, 1) := by decide +kernel
theorem dX0_aheadOf_1 : decode cX0_aheadOf 1 = .ok (.istore_n 3, 1) := by decide +kernel
theorem dX0_aheadOf_2 : decode cX0_aheadOf 2 = .ok (.iload_n 3, 1) := by decide +kernel
theorem dX0_aheadOf_3 : decode cX0_aheadOf 3 = .ok (.iconst 5, 1) := by decide +kernel
theorem dX0_aheadOf_4 : decode cX0_aheadOf 4 = .ok (.if_icmp .ge 35, 3) := by decide +kernel
theorem dX0_aheadOf_7 : decode cX0_aheadOf 7 = .ok (.lload_n 0, 1) := by decide +kernel
theorem dX0_aheadOf_8 : decode cX0_aheadOf 8 = .ok (.iload_n 3, 1) := by decide +kernel
theorem dX0_aheadOf_9 : decode cX0_aheadOf 9 = .ok (.invokestatic 17, 3) := by decide +kernel
theorem dX0_aheadOf_12 : decode cX0_aheadOf 12 = .ok (.lstore 4, 2) := by decide +kernel
theorem dX0_aheadOf_14 : decode cX0_aheadOf 14 = .ok (.lload 4, 2) := by decide +kernel
theorem dX0_aheadOf_16 : decode cX0_aheadOf 16 = .ok (.lconst 0, 1) := by decide +kernel
theorem dX0_aheadOf_17 : decode cX0_aheadOf 17 = .ok (.lcmp, 1) := by decide +kernel
theorem dX0_aheadOf_18 : decode cX0_aheadOf 18 = .ok (.ifCond .eq 12, 3) := by decide +kernel
theorem dX0_aheadOf_21 : decode cX0_aheadOf 21 = .ok (.lload 4, 2) := by decide +kernel
theorem dX0_aheadOf_23 : decode cX0_aheadOf 23 = .ok (.invokestatic 21, 3) := by decide +kernel
theorem dX0_aheadOf_26 : decode cX0_aheadOf 26 = .ok (.iload_n 2, 1) := by decide +kernel
theorem dX0_aheadOf_27 : decode cX0_aheadOf 27 = .ok (.if_icmp .ge 6, 3) := by decide +kernel
theorem dX0_aheadOf_30 : decode cX0_aheadOf 30 = .ok (.lload 4, 2) := by decide +kernel
theorem dX0_aheadOf_32 : decode cX0_aheadOf 32 = .ok (.lreturn, 1) := by decide +kernel
theorem dX0_aheadOf_33 : decode cX0_aheadOf 33 = .ok (.iinc 3 1, 3) := by decide +kernel
theorem dX0_aheadOf_36 : decode cX0_aheadOf 36 = .ok (.goto (-34), 3) := by decide +kernel
theorem dX0_aheadOf_39 : decode cX0_aheadOf 39 = .ok (.lconst 0, 1) := by decide +kernel
theorem dX0_aheadOf_40 : decode cX0_aheadOf 40 = .ok (.lreturn, 1) := by decide +kernel
theorem dX1_init_0 : decode cX1_init 0 = .ok (.aload_n 0, 1) := by decide +kernel
theorem dX1_init_1 : decode cX1_init 1 = .ok (.invokespecial 3, 3) := by decide +kernel
theorem dX1_init_4 : decode cX1_init 4 = .ok (.aload_n 0, 1) := by decide +kernel
theorem dX1_init_5 : decode cX1_init 5 = .ok (.iconst 5, 1) := by decide +kernel
theorem dX1_init_6 : decode cX1_init 6 = .ok (.bipush 6, 2) := by decide +kernel
theorem dX1_init_8 : decode cX1_init 8 = .ok (.multianewarray 9 2, 4) := by decide +kernel
theorem dX1_init_12 : decode cX1_init 12 = .ok (.putfield 11, 3) := by decide +kernel
theorem dX1_init_15 : decode cX1_init 15 = .ok (.return_, 1) := by decide +kernel
theorem dX1_lay_0 : decode cX1_lay 0 = .ok (.aload_n 0, 1) := by decide +kernel
theorem dX1_lay_1 : decode cX1_lay 1 = .ok (.aload_n 2, 1) := by decide +kernel
theorem dX1_lay_2 : decode cX1_lay 2 = .ok (.getfield 16, 3) := by decide +kernel
theorem dX1_lay_5 : decode cX1_lay 5 = .ok (.putfield 22, 3) := by decide +kernel
theorem dX1_lay_8 : decode cX1_lay 8 = .ok (.aload_n 0, 1) := by decide +kernel
theorem dX1_lay_9 : decode cX1_lay 9 = .ok (.aload_n 1, 1) := by decide +kernel
theorem dX1_lay_10 : decode cX1_lay 10 = .ok (.getfield 25, 3) := by decide +kernel
theorem dX1_lay_13 : decode cX1_lay 13 = .ok (.iload_n 3, 1) := by decide +kernel
theorem dX1_lay_14 : decode cX1_lay 14 = .ok (.iaload, 1) := by decide +kernel
theorem dX1_lay_15 : decode cX1_lay 15 = .ok (.putfield 31, 3) := by decide +kernel
theorem dX1_lay_18 : decode cX1_lay 18 = .ok (.aload_n 2, 1) := by decide +kernel
theorem dX1_lay_19 : decode cX1_lay 19 = .ok (.getfield 34, 3) := by decide +kernel
theorem dX1_lay_22 : decode cX1_lay 22 = .ok (.aload_n 1, 1) := by decide +kernel
theorem dX1_lay_23 : decode cX1_lay 23 = .ok (.getfield 37, 3) := by decide +kernel
theorem dX1_lay_26 : decode cX1_lay 26 = .ok (.iload_n 3, 1) := by decide +kernel
theorem dX1_lay_27 : decode cX1_lay 27 = .ok (.iaload, 1) := by decide +kernel
theorem dX1_lay_28 : decode cX1_lay 28 = .ok (.aload_n 0, 1) := by decide +kernel
theorem dX1_lay_29 : decode cX1_lay 29 = .ok (.getfield 11, 3) := by decide +kernel
theorem dX1_lay_32 : decode cX1_lay 32 = .ok (.iconst 0, 1) := by decide +kernel
theorem dX1_lay_33 : decode cX1_lay 33 = .ok (.aaload, 1) := by decide +kernel
theorem dX1_lay_34 : decode cX1_lay 34 = .ok (.iconst 0, 1) := by decide +kernel
theorem dX1_lay_35 : decode cX1_lay 35 = .ok (.aload_n 0, 1) := by decide +kernel
theorem dX1_lay_36 : decode cX1_lay 36 = .ok (.getfield 31, 3) := by decide +kernel
theorem dX1_lay_39 : decode cX1_lay 39 = .ok (.invokestatic 40, 3) := by decide +kernel
theorem dX1_lay_42 : decode cX1_lay 42 = .ok (.return_, 1) := by decide +kernel
theorem dX1_seat_0 : decode cX1_seat 0 = .ok (.aload_n 0, 1) := by decide +kernel
theorem dX1_seat_1 : decode cX1_seat 1 = .ok (.iload_n 1, 1) := by decide +kernel
theorem dX1_seat_2 : decode cX1_seat 2 = .ok (.putfield 46, 3) := by decide +kernel
theorem dX1_seat_5 : decode cX1_seat 5 = .ok (.aload_n 0, 1) := by decide +kernel
theorem dX1_seat_6 : decode cX1_seat 6 = .ok (.iload_n 2, 1) := by decide +kernel
theorem dX1_seat_7 : decode cX1_seat 7 = .ok (.putfield 49, 3) := by decide +kernel
theorem dX1_seat_10 : decode cX1_seat 10 = .ok (.aload_n 0, 1) := by decide +kernel
theorem dX1_seat_11 : decode cX1_seat 11 = .ok (.iload_n 3, 1) := by decide +kernel
theorem dX1_seat_12 : decode cX1_seat 12 = .ok (.iconst 4, 1) := by decide +kernel
theorem dX1_seat_13 : decode cX1_seat 13 = .ok (.invokestatic 52, 3) := by decide +kernel
theorem dX1_seat_16 : decode cX1_seat 16 = .ok (.putfield 58, 3) := by decide +kernel
theorem dX1_seat_19 : decode cX1_seat 19 = .ok (.aload_n 0, 1) := by decide +kernel
theorem dX1_seat_20 : decode cX1_seat 20 = .ok (.iconst (-1), 1) := by decide +kernel
theorem dX1_seat_21 : decode cX1_seat 21 = .ok (.putfield 61, 3) := by decide +kernel
theorem dX1_seat_24 : decode cX1_seat 24 = .ok (.return_, 1) := by decide +kernel
theorem dX1_play_0 : decode cX1_play 0 = .ok (.iload_n 2, 1) := by decide +kernel
theorem dX1_play_1 : decode cX1_play 1 = .ok (.aload_n 0, 1) := by decide +kernel
theorem dX1_play_2 : decode cX1_play 2 = .ok (.getfield 58, 3) := by decide +kernel
theorem dX1_play_5 : decode cX1_play 5 = .ok (.if_icmp .lt 10, 3) := by decide +kernel
theorem dX1_play_8 : decode cX1_play 8 = .ok (.aload_n 0, 1) := by decide +kernel
theorem dX1_play_9 : decode cX1_play 9 = .ok (.aload_n 1, 1) := by decide +kernel
theorem dX1_play_10 : decode cX1_play 10 = .ok (.iload_n 2, 1) := by decide +kernel
theorem dX1_play_11 : decode cX1_play 11 = .ok (.invokevirtual 64, 3) := by decide +kernel
theorem dX1_play_14 : decode cX1_play 14 = .ok (.ireturn, 1) := by decide +kernel
theorem dX1_play_15 : decode cX1_play 15 = .ok (.iload_n 2, 1) := by decide +kernel
theorem dX1_play_16 : decode cX1_play 16 = .ok (.iconst 2, 1) := by decide +kernel
theorem dX1_play_17 : decode cX1_play 17 = .ok (.irem, 1) := by decide +kernel
theorem dX1_play_18 : decode cX1_play 18 = .ok (.ifCond .ne 7, 3) := by decide +kernel
theorem dX1_play_21 : decode cX1_play 21 = .ok (.iconst 1, 1) := by decide +kernel
theorem dX1_play_22 : decode cX1_play 22 = .ok (.goto 4, 3) := by decide +kernel
theorem dX1_play_25 : decode cX1_play 25 = .ok (.iconst 0, 1) := by decide +kernel
theorem dX1_play_26 : decode cX1_play 26 = .ok (.istore_n 3, 1) := by decide +kernel
theorem dX1_play_27 : decode cX1_play 27 = .ok (.iconst 0, 1) := by decide +kernel
theorem dX1_play_28 : decode cX1_play 28 = .ok (.istore 4, 2) := by decide +kernel
theorem dX1_play_30 : decode cX1_play 30 = .ok (.iconst (-1), 1) := by decide +kernel
theorem dX1_play_31 : decode cX1_play 31 = .ok (.istore 5, 2) := by decide +kernel
theorem dX1_play_33 : decode cX1_play 33 = .ok (.iload 5, 2) := by decide +kernel
theorem dX1_play_35 : decode cX1_play 35 = .ok (.aload_n 0, 1) := by decide +kernel
theorem dX1_play_36 : decode cX1_play 36 = .ok (.getfield 31, 3) := by decide +kernel
theorem dX1_play_39 : decode cX1_play 39 = .ok (.if_icmp .ge 90, 3) := by decide +kernel
theorem dX1_play_42 : decode cX1_play 42 = .ok (.aload_n 0, 1) := by decide +kernel
theorem dX1_play_43 : decode cX1_play 43 = .ok (.aload_n 1, 1) := by decide +kernel
theorem dX1_play_44 : decode cX1_play 44 = .ok (.iload_n 2, 1) := by decide +kernel
theorem dX1_play_45 : decode cX1_play 45 = .ok (.iload 5, 2) := by decide +kernel
theorem dX1_play_47 : decode cX1_play 47 = .ok (.iload_n 3, 1) := by decide +kernel
theorem dX1_play_48 : decode cX1_play 48 = .ok (.ifCond .eq 10, 3) := by decide +kernel
theorem dX1_play_51 : decode cX1_play 51 = .ok (.aload_n 0, 1) := by decide +kernel
theorem dX1_play_52 : decode cX1_play 52 = .ok (.getfield 46, 3) := by decide +kernel
theorem dX1_play_55 : decode cX1_play 55 = .ok (.goto 7, 3) := by decide +kernel
theorem dX1_play_58 : decode cX1_play 58 = .ok (.aload_n 0, 1) := by decide +kernel
theorem dX1_play_59 : decode cX1_play 59 = .ok (.getfield 49, 3) := by decide +kernel
theorem dX1_play_62 : decode cX1_play 62 = .ok (.invokevirtual 68, 3) := by decide +kernel
theorem dX1_play_65 : decode cX1_play 65 = .ok (.aload_n 0, 1) := by decide +kernel
theorem dX1_play_66 : decode cX1_play 66 = .ok (.aload_n 1, 1) := by decide +kernel
theorem dX1_play_67 : decode cX1_play 67 = .ok (.iload_n 2, 1) := by decide +kernel
theorem dX1_play_68 : decode cX1_play 68 = .ok (.iconst 1, 1) := by decide +kernel
theorem dX1_play_69 : decode cX1_play 69 = .ok (.iadd, 1) := by decide +kernel
theorem dX1_play_70 : decode cX1_play 70 = .ok (.invokevirtual 72, 3) := by decide +kernel
theorem dX1_play_73 : decode cX1_play 73 = .ok (.istore 6, 2) := by decide +kernel
theorem dX1_play_75 : decode cX1_play 75 = .ok (.iload 5, 2) := by decide +kernel
theorem dX1_play_77 : decode cX1_play 77 = .ok (.iconst (-1), 1) := by decide +kernel
theorem dX1_play_78 : decode cX1_play 78 = .ok (.if_icmp .eq 24, 3) := by decide +kernel
theorem dX1_play_81 : decode cX1_play 81 = .ok (.iload_n 3, 1) := by decide +kernel
theorem dX1_play_82 : decode cX1_play 82 = .ok (.ifCond .eq 13, 3) := by decide +kernel
theorem dX1_play_85 : decode cX1_play 85 = .ok (.iload 6, 2) := by decide +kernel
theorem dX1_play_87 : decode cX1_play 87 = .ok (.iload 4, 2) := by decide +kernel
theorem dX1_play_89 : decode cX1_play 89 = .ok (.if_icmp .le 34, 3) := by decide +kernel
theorem dX1_play_92 : decode cX1_play 92 = .ok (.goto 10, 3) := by decide +kernel
theorem dX1_play_95 : decode cX1_play 95 = .ok (.iload 6, 2) := by decide +kernel
theorem dX1_play_97 : decode cX1_play 97 = .ok (.iload 4, 2) := by decide +kernel
theorem dX1_play_99 : decode cX1_play 99 = .ok (.if_icmp .ge 24, 3) := by decide +kernel
theorem dX1_play_102 : decode cX1_play 102 = .ok (.iload 6, 2) := by decide +kernel
theorem dX1_play_104 : decode cX1_play 104 = .ok (.istore 4, 2) := by decide +kernel
theorem dX1_play_106 : decode cX1_play 106 = .ok (.aload_n 0, 1) := by decide +kernel
theorem dX1_play_107 : decode cX1_play 107 = .ok (.iload_n 2, 1) := by decide +kernel
theorem dX1_play_108 : decode cX1_play 108 = .ok (.ifCond .ne 8, 3) := by decide +kernel
theorem dX1_play_111 : decode cX1_play 111 = .ok (.iload 5, 2) := by decide +kernel
theorem dX1_play_113 : decode cX1_play 113 = .ok (.goto 7, 3) := by decide +kernel
theorem dX1_play_116 : decode cX1_play 116 = .ok (.aload_n 0, 1) := by decide +kernel
theorem dX1_play_117 : decode cX1_play 117 = .ok (.getfield 61, 3) := by decide +kernel
theorem dX1_play_120 : decode cX1_play 120 = .ok (.putfield 61, 3) := by decide +kernel
theorem dX1_play_123 : decode cX1_play 123 = .ok (.iinc 5 1, 3) := by decide +kernel
theorem dX1_play_126 : decode cX1_play 126 = .ok (.goto (-93), 3) := by decide +kernel
theorem dX1_play_129 : decode cX1_play 129 = .ok (.iload 4, 2) := by decide +kernel
theorem dX1_play_131 : decode cX1_play 131 = .ok (.ireturn, 1) := by decide +kernel
theorem dX1_make_0 : decode cX1_make 0 = .ok (.aload_n 0, 1) := by decide +kernel
theorem dX1_make_1 : decode cX1_make 1 = .ok (.getfield 22, 3) := by decide +kernel
theorem dX1_make_4 : decode cX1_make 4 = .ok (.iload_n 2, 1) := by decide +kernel
theorem dX1_make_5 : decode cX1_make 5 = .ok (.iadd, 1) := by decide +kernel
theorem dX1_make_6 : decode cX1_make 6 = .ok (.istore 5, 2) := by decide +kernel
theorem dX1_make_8 : decode cX1_make 8 = .ok (.iconst 0, 1) := by decide +kernel
theorem dX1_make_9 : decode cX1_make 9 = .ok (.istore 6, 2) := by decide +kernel
theorem dX1_make_11 : decode cX1_make 11 = .ok (.iload 6, 2) := by decide +kernel
theorem dX1_make_13 : decode cX1_make 13 = .ok (.aload_n 0, 1) := by decide +kernel
theorem dX1_make_14 : decode cX1_make 14 = .ok (.getfield 31, 3) := by decide +kernel
theorem dX1_make_17 : decode cX1_make 17 = .ok (.if_icmp .ge 62, 3) := by decide +kernel
theorem dX1_make_20 : decode cX1_make 20 = .ok (.aload_n 0, 1) := by decide +kernel
theorem dX1_make_21 : decode cX1_make 21 = .ok (.getfield 11, 3) := by decide +kernel
theorem dX1_make_24 : decode cX1_make 24 = .ok (.iload_n 2, 1) := by decide +kernel
theorem dX1_make_25 : decode cX1_make 25 = .ok (.aaload, 1) := by decide +kernel
theorem dX1_make_26 : decode cX1_make 26 = .ok (.iload 6, 2) := by decide +kernel
theorem dX1_make_28 : decode cX1_make 28 = .ok (.laload, 1) := by decide +kernel
theorem dX1_make_29 : decode cX1_make 29 = .ok (.lstore 7, 2) := by decide +kernel
theorem dX1_make_31 : decode cX1_make 31 = .ok (.iload 6, 2) := by decide +kernel
theorem dX1_make_33 : decode cX1_make 33 = .ok (.iload_n 3, 1) := by decide +kernel
theorem dX1_make_34 : decode cX1_make 34 = .ok (.if_icmp .ne 15, 3) := by decide +kernel
theorem dX1_make_37 : decode cX1_make 37 = .ok (.lload 7, 2) := by decide +kernel
theorem dX1_make_39 : decode cX1_make 39 = .ok (.iload 4, 2) := by decide +kernel
theorem dX1_make_41 : decode cX1_make 41 = .ok (.iload 5, 2) := by decide +kernel
theorem dX1_make_43 : decode cX1_make 43 = .ok (.invokestatic 75, 3) := by decide +kernel
theorem dX1_make_46 : decode cX1_make 46 = .ok (.goto 5, 3) := by decide +kernel
theorem dX1_make_49 : decode cX1_make 49 = .ok (.lload 7, 2) := by decide +kernel
theorem dX1_make_51 : decode cX1_make 51 = .ok (.lstore 9, 2) := by decide +kernel
theorem dX1_make_53 : decode cX1_make 53 = .ok (.aload_n 0, 1) := by decide +kernel
theorem dX1_make_54 : decode cX1_make 54 = .ok (.getfield 11, 3) := by decide +kernel
theorem dX1_make_57 : decode cX1_make 57 = .ok (.iload_n 2, 1) := by decide +kernel
theorem dX1_make_58 : decode cX1_make 58 = .ok (.iconst 1, 1) := by decide +kernel
theorem dX1_make_59 : decode cX1_make 59 = .ok (.iadd, 1) := by decide +kernel
theorem dX1_make_60 : decode cX1_make 60 = .ok (.aaload, 1) := by decide +kernel
theorem dX1_make_61 : decode cX1_make 61 = .ok (.iload 6, 2) := by decide +kernel
theorem dX1_make_63 : decode cX1_make 63 = .ok (.aload_n 1, 1) := by decide +kernel
theorem dX1_make_64 : decode cX1_make 64 = .ok (.lload 9, 2) := by decide +kernel
theorem dX1_make_66 : decode cX1_make 66 = .ok (.iload 5, 2) := by decide +kernel
theorem dX1_make_68 : decode cX1_make 68 = .ok (.iconst 1, 1) := by decide +kernel
theorem dX1_make_69 : decode cX1_make 69 = .ok (.invokevirtual 81, 3) := by decide +kernel
theorem dX1_make_72 : decode cX1_make 72 = .ok (.lastore, 1) := by decide +kernel
theorem dX1_make_73 : decode cX1_make 73 = .ok (.iinc 6 1, 3) := by decide +kernel
theorem dX1_make_76 : decode cX1_make 76 = .ok (.goto (-65), 3) := by decide +kernel
theorem dX1_make_79 : decode cX1_make 79 = .ok (.return_, 1) := by decide +kernel
theorem dX1_outcome_0 : decode cX1_outcome 0 = .ok (.aload_n 0, 1) := by decide +kernel
theorem dX1_outcome_1 : decode cX1_outcome 1 = .ok (.getfield 22, 3) := by decide +kernel
theorem dX1_outcome_4 : decode cX1_outcome 4 = .ok (.iload_n 2, 1) := by decide +kernel
theorem dX1_outcome_5 : decode cX1_outcome 5 = .ok (.iadd, 1) := by decide +kernel
theorem dX1_outcome_6 : decode cX1_outcome 6 = .ok (.istore_n 3, 1) := by decide +kernel
theorem dX1_outcome_7 : decode cX1_outcome 7 = .ok (.iconst 0, 1) := by decide +kernel
theorem dX1_outcome_8 : decode cX1_outcome 8 = .ok (.istore 4, 2) := by decide +kernel
theorem dX1_outcome_10 : decode cX1_outcome 10 = .ok (.iconst 0, 1) := by decide +kernel
theorem dX1_outcome_11 : decode cX1_outcome 11 = .ok (.istore 5, 2) := by decide +kernel
theorem dX1_outcome_13 : decode cX1_outcome 13 = .ok (.iload 5, 2) := by decide +kernel
theorem dX1_outcome_15 : decode cX1_outcome 15 = .ok (.aload_n 0, 1) := by decide +kernel
theorem dX1_outcome_16 : decode cX1_outcome 16 = .ok (.getfield 31, 3) := by decide +kernel
theorem dX1_outcome_19 : decode cX1_outcome 19 = .ok (.if_icmp .ge 70, 3) := by decide +kernel
theorem dX1_outcome_22 : decode cX1_outcome 22 = .ok (.aload_n 1, 1) := by decide +kernel
theorem dX1_outcome_23 : decode cX1_outcome 23 = .ok (.aload_n 0, 1) := by decide +kernel
theorem dX1_outcome_24 : decode cX1_outcome 24 = .ok (.getfield 11, 3) := by decide +kernel
theorem dX1_outcome_27 : decode cX1_outcome 27 = .ok (.iload_n 2, 1) := by decide +kernel
theorem dX1_outcome_28 : decode cX1_outcome 28 = .ok (.aaload, 1) := by decide +kernel
theorem dX1_outcome_29 : decode cX1_outcome 29 = .ok (.iload 5, 2) := by decide +kernel
theorem dX1_outcome_31 : decode cX1_outcome 31 = .ok (.laload, 1) := by decide +kernel
theorem dX1_outcome_32 : decode cX1_outcome 32 = .ok (.iload_n 3, 1) := by decide +kernel
theorem dX1_outcome_33 : decode cX1_outcome 33 = .ok (.aload_n 1, 1) := by decide +kernel
theorem dX1_outcome_34 : decode cX1_outcome 34 = .ok (.getfield 84, 3) := by decide +kernel
theorem dX1_outcome_37 : decode cX1_outcome 37 = .ok (.invokevirtual 81, 3) := by decide +kernel
theorem dX1_outcome_40 : decode cX1_outcome 40 = .ok (.lstore 6, 2) := by decide +kernel
theorem dX1_outcome_42 : decode cX1_outcome 42 = .ok (.aload_n 1, 1) := by decide +kernel
theorem dX1_outcome_43 : decode cX1_outcome 43 = .ok (.lload 6, 2) := by decide +kernel
theorem dX1_outcome_45 : decode cX1_outcome 45 = .ok (.iload_n 3, 1) := by decide +kernel
theorem dX1_outcome_46 : decode cX1_outcome 46 = .ok (.aload_n 1, 1) := by decide +kernel
theorem dX1_outcome_47 : decode cX1_outcome 47 = .ok (.getfield 84, 3) := by decide +kernel
theorem dX1_outcome_50 : decode cX1_outcome 50 = .ok (.iadd, 1) := by decide +kernel
theorem dX1_outcome_51 : decode cX1_outcome 51 = .ok (.invokevirtual 87, 3) := by decide +kernel
theorem dX1_outcome_54 : decode cX1_outcome 54 = .ok (.istore 8, 2) := by decide +kernel
theorem dX1_outcome_56 : decode cX1_outcome 56 = .ok (.iload 8, 2) := by decide +kernel
theorem dX1_outcome_58 : decode cX1_outcome 58 = .ok (.aload_n 0, 1) := by decide +kernel
theorem dX1_outcome_59 : decode cX1_outcome 59 = .ok (.getfield 46, 3) := by decide +kernel
theorem dX1_outcome_62 : decode cX1_outcome 62 = .ok (.if_icmp .ne 9, 3) := by decide +kernel
theorem dX1_outcome_65 : decode cX1_outcome 65 = .ok (.iinc 4 1, 3) := by decide +kernel
theorem dX1_outcome_68 : decode cX1_outcome 68 = .ok (.goto 15, 3) := by decide +kernel
theorem dX1_outcome_71 : decode cX1_outcome 71 = .ok (.iload 8, 2) := by decide +kernel
theorem dX1_outcome_73 : decode cX1_outcome 73 = .ok (.aload_n 0, 1) := by decide +kernel
theorem dX1_outcome_74 : decode cX1_outcome 74 = .ok (.getfield 49, 3) := by decide +kernel
theorem dX1_outcome_77 : decode cX1_outcome 77 = .ok (.if_icmp .ne 6, 3) := by decide +kernel
theorem dX1_outcome_80 : decode cX1_outcome 80 = .ok (.iinc 4 (-1), 3) := by decide +kernel
theorem dX1_outcome_83 : decode cX1_outcome 83 = .ok (.iinc 5 1, 3) := by decide +kernel
theorem dX1_outcome_86 : decode cX1_outcome 86 = .ok (.goto (-73), 3) := by decide +kernel
theorem dX1_outcome_89 : decode cX1_outcome 89 = .ok (.iload 4, 2) := by decide +kernel
theorem dX1_outcome_91 : decode cX1_outcome 91 = .ok (.ireturn, 1) := by decide +kernel
theorem dX2_init_0 : decode cX2_init 0 = .ok (.aload_n 0, 1) := by decide +kernel
theorem dX2_init_1 : decode cX2_init 1 = .ok (.invokespecial 3, 3) := by decide +kernel
theorem dX2_init_4 : decode cX2_init 4 = .ok (.aload_n 0, 1) := by decide +kernel
theorem dX2_init_5 : decode cX2_init 5 = .ok (.bipush 13, 2) := by decide +kernel
theorem dX2_init_7 : decode cX2_init 7 = .ok (.newarray .long, 2) := by decide +kernel
theorem dX2_init_9 : decode cX2_init 9 = .ok (.putfield 11, 3) := by decide +kernel
theorem dX2_init_12 : decode cX2_init 12 = .ok (.aload_n 0, 1) := by decide +kernel
theorem dX2_init_13 : decode cX2_init 13 = .ok (.bipush 60, 2) := by decide +kernel
theorem dX2_init_15 : decode cX2_init 15 = .ok (.newarray .long, 2) := by decide +kernel
theorem dX2_init_17 : decode cX2_init 17 = .ok (.putfield 19, 3) := by decide +kernel
theorem dX2_init_20 : decode cX2_init 20 = .ok (.aload_n 0, 1) := by decide +kernel
theorem dX2_init_21 : decode cX2_init 21 = .ok (.bipush 16, 2) := by decide +kernel
theorem dX2_init_23 : decode cX2_init 23 = .ok (.newarray .int, 2) := by decide +kernel
theorem dX2_init_25 : decode cX2_init 25 = .ok (.putfield 22, 3) := by decide +kernel
theorem dX2_init_28 : decode cX2_init 28 = .ok (.aload_n 0, 1) := by decide +kernel
theorem dX2_init_29 : decode cX2_init 29 = .ok (.iconst 4, 1) := by decide +kernel
theorem dX2_init_30 : decode cX2_init 30 = .ok (.newarray .int, 2) := by decide +kernel
theorem dX2_init_32 : decode cX2_init 32 = .ok (.putfield 26, 3) := by decide +kernel
theorem dX2_init_35 : decode cX2_init 35 = .ok (.aload_n 0, 1) := by decide +kernel
theorem dX2_init_36 : decode cX2_init 36 = .ok (.iconst 4, 1) := by decide +kernel
theorem dX2_init_37 : decode cX2_init 37 = .ok (.newarray .int, 2) := by decide +kernel
theorem dX2_init_39 : decode cX2_init 39 = .ok (.putfield 29, 3) := by decide +kernel
theorem dX2_init_42 : decode cX2_init 42 = .ok (.aload_n 0, 1) := by decide +kernel
theorem dX2_init_43 : decode cX2_init 43 = .ok (.iconst 4, 1) := by decide +kernel
theorem dX2_init_44 : decode cX2_init 44 = .ok (.newarray .int, 2) := by decide +kernel
theorem dX2_init_46 : decode cX2_init 46 = .ok (.putfield 32, 3) := by decide +kernel
theorem dX2_init_49 : decode cX2_init 49 = .ok (.return_, 1) := by decide +kernel
theorem dX2_forgetRents_0 : decode cX2_forgetRents 0 = .ok (.aload_n 0, 1) := by decide +kernel
theorem dX2_forgetRents_1 : decode cX2_forgetRents 1 = .ok (.getfield 32, 3) := by decide +kernel
theorem dX2_forgetRents_4 : decode cX2_forgetRents 4 = .ok (.iconst 0, 1) := by decide +kernel
theorem dX2_forgetRents_5 : decode cX2_forgetRents 5 = .ok (.invokestatic 35, 3) := by decide +kernel
theorem dX2_forgetRents_8 : decode cX2_forgetRents 8 = .ok (.return_, 1) := by decide +kernel
theorem dX2_gotByAll_0 : decode cX2_gotByAll 0 = .ok (.iconst 0, 1) := by decide +kernel
theorem dX2_gotByAll_1 : decode cX2_gotByAll 1 = .ok (.istore_n 1, 1) := by decide +kernel
theorem dX2_gotByAll_2 : decode cX2_gotByAll 2 = .ok (.iconst 0, 1) := by decide +kernel
theorem dX2_gotByAll_3 : decode cX2_gotByAll 3 = .ok (.istore_n 2, 1) := by decide +kernel
theorem dX2_gotByAll_4 : decode cX2_gotByAll 4 = .ok (.iload_n 2, 1) := by decide +kernel
theorem dX2_gotByAll_5 : decode cX2_gotByAll 5 = .ok (.iconst 4, 1) := by decide +kernel
theorem dX2_gotByAll_6 : decode cX2_gotByAll 6 = .ok (.if_icmp .ge 18, 3) := by decide +kernel
theorem dX2_gotByAll_9 : decode cX2_gotByAll 9 = .ok (.iload_n 1, 1) := by decide +kernel
theorem dX2_gotByAll_10 : decode cX2_gotByAll 10 = .ok (.aload_n 0, 1) := by decide +kernel
theorem dX2_gotByAll_11 : decode cX2_gotByAll 11 = .ok (.getfield 32, 3) := by decide +kernel
theorem dX2_gotByAll_14 : decode cX2_gotByAll 14 = .ok (.iload_n 2, 1) := by decide +kernel
theorem dX2_gotByAll_15 : decode cX2_gotByAll 15 = .ok (.iaload, 1) := by decide +kernel
theorem dX2_gotByAll_16 : decode cX2_gotByAll 16 = .ok (.iadd, 1) := by decide +kernel
theorem dX2_gotByAll_17 : decode cX2_gotByAll 17 = .ok (.istore_n 1, 1) := by decide +kernel
theorem dX2_gotByAll_18 : decode cX2_gotByAll 18 = .ok (.iinc 2 1, 3) := by decide +kernel
theorem dX2_gotByAll_21 : decode cX2_gotByAll 21 = .ok (.goto (-17), 3) := by decide +kernel
theorem dX2_gotByAll_24 : decode cX2_gotByAll 24 = .ok (.iload_n 1, 1) := by decide +kernel
theorem dX2_gotByAll_25 : decode cX2_gotByAll 25 = .ok (.ireturn, 1) := by decide +kernel
theorem dX2_pass_0 : decode cX2_pass 0 = .ok (.aload_n 3, 1) := by decide +kernel
theorem dX2_pass_1 : decode cX2_pass 1 = .ok (.ifnonnull 7, 3) := by decide +kernel
theorem dX2_pass_4 : decode cX2_pass 4 = .ok (.iconst 0, 1) := by decide +kernel
theorem dX2_pass_5 : decode cX2_pass 5 = .ok (.goto 10, 3) := by decide +kernel
theorem dX2_pass_8 : decode cX2_pass 8 = .ok (.aload_n 0, 1) := by decide +kernel
theorem dX2_pass_9 : decode cX2_pass 9 = .ok (.aload_n 3, 1) := by decide +kernel
theorem dX2_pass_10 : decode cX2_pass 10 = .ok (.aload_n 1, 1) := by decide +kernel
theorem dX2_pass_11 : decode cX2_pass 11 = .ok (.aload_n 2, 1) := by decide +kernel
theorem dX2_pass_12 : decode cX2_pass 12 = .ok (.invokevirtual 41, 3) := by decide +kernel
theorem dX2_pass_15 : decode cX2_pass 15 = .ok (.istore 4, 2) := by decide +kernel
theorem dX2_pass_17 : decode cX2_pass 17 = .ok (.aload_n 0, 1) := by decide +kernel
theorem dX2_pass_18 : decode cX2_pass 18 = .ok (.aload_n 1, 1) := by decide +kernel
theorem dX2_pass_19 : decode cX2_pass 19 = .ok (.aload_n 2, 1) := by decide +kernel
theorem dX2_pass_20 : decode cX2_pass 20 = .ok (.invokevirtual 45, 3) := by decide +kernel
theorem dX2_pass_23 : decode cX2_pass 23 = .ok (.iload 4, 2) := by decide +kernel
theorem dX2_pass_25 : decode cX2_pass 25 = .ok (.ireturn, 1) := by decide +kernel
theorem dX2_beginDraws_0 : decode cX2_beginDraws 0 = .ok (.aload_n 0, 1) := by decide +kernel
theorem dX2_beginDraws_1 : decode cX2_beginDraws 1 = .ok (.iload_n 1, 1) := by decide +kernel
theorem dX2_beginDraws_2 : decode cX2_beginDraws 2 = .ok (.i2l, 1) := by decide +kernel
theorem dX2_beginDraws_3 : decode cX2_beginDraws 3 = .ok (.putfield 49, 3) := by decide +kernel
theorem dX2_beginDraws_6 : decode cX2_beginDraws 6 = .ok (.return_, 1) := by decide +kernel
theorem dX2_passDrawn_0 : decode cX2_passDrawn 0 = .ok (.aload_n 0, 1) := by decide +kernel
theorem dX2_passDrawn_1 : decode cX2_passDrawn 1 = .ok (.aload_n 1, 1) := by decide +kernel
theorem dX2_passDrawn_2 : decode cX2_passDrawn 2 = .ok (.getfield 53, 3) := by decide +kernel
theorem dX2_passDrawn_5 : decode cX2_passDrawn 5 = .ok (.invokevirtual 59, 3) := by decide +kernel
theorem dX2_passDrawn_8 : decode cX2_passDrawn 8 = .ok (.istore_n 3, 1) := by decide +kernel
theorem dX2_passDrawn_9 : decode cX2_passDrawn 9 = .ok (.aload_n 0, 1) := by decide +kernel
theorem dX2_passDrawn_10 : decode cX2_passDrawn 10 = .ok (.aload_n 1, 1) := by decide +kernel
theorem dX2_passDrawn_11 : decode cX2_passDrawn 11 = .ok (.getfield 63, 3) := by decide +kernel
theorem dX2_passDrawn_14 : decode cX2_passDrawn 14 = .ok (.invokevirtual 59, 3) := by decide +kernel
theorem dX2_passDrawn_17 : decode cX2_passDrawn 17 = .ok (.istore 4, 2) := by decide +kernel
theorem dX2_passDrawn_19 : decode cX2_passDrawn 19 = .ok (.aload_n 1, 1) := by decide +kernel
theorem dX2_passDrawn_20 : decode cX2_passDrawn 20 = .ok (.aload_n 2, 1) := by decide +kernel
theorem dX2_passDrawn_21 : decode cX2_passDrawn 21 = .ok (.iload 4, 2) := by decide +kernel
theorem dX2_passDrawn_23 : decode cX2_passDrawn 23 = .ok (.iload_n 3, 1) := by decide +kernel
theorem dX2_passDrawn_24 : decode cX2_passDrawn 24 = .ok (.invokevirtual 66, 3) := by decide +kernel
theorem dX2_passDrawn_27 : decode cX2_passDrawn 27 = .ok (.istore 5, 2) := by decide +kernel
theorem dX2_passDrawn_29 : decode cX2_passDrawn 29 = .ok (.iload 5, 2) := by decide +kernel
theorem dX2_passDrawn_31 : decode cX2_passDrawn 31 = .ok (.ifCond .eq 11, 3) := by decide +kernel
theorem dX2_passDrawn_34 : decode cX2_passDrawn 34 = .ok (.aload_n 1, 1) := by decide +kernel
theorem dX2_passDrawn_35 : decode cX2_passDrawn 35 = .ok (.aload_n 2, 1) := by decide +kernel
theorem dX2_passDrawn_36 : decode cX2_passDrawn 36 = .ok (.iload 4, 2) := by decide +kernel
theorem dX2_passDrawn_38 : decode cX2_passDrawn 38 = .ok (.iload_n 3, 1) := by decide +kernel
theorem dX2_passDrawn_39 : decode cX2_passDrawn 39 = .ok (.invokevirtual 70, 3) := by decide +kernel
theorem dX2_passDrawn_42 : decode cX2_passDrawn 42 = .ok (.aload_n 0, 1) := by decide +kernel
theorem dX2_passDrawn_43 : decode cX2_passDrawn 43 = .ok (.aload_n 1, 1) := by decide +kernel
theorem dX2_passDrawn_44 : decode cX2_passDrawn 44 = .ok (.aload_n 2, 1) := by decide +kernel
theorem dX2_passDrawn_45 : decode cX2_passDrawn 45 = .ok (.invokevirtual 45, 3) := by decide +kernel
theorem dX2_passDrawn_48 : decode cX2_passDrawn 48 = .ok (.iload 5, 2) := by decide +kernel
theorem dX2_passDrawn_50 : decode cX2_passDrawn 50 = .ok (.ifCond .eq 7, 3) := by decide +kernel
theorem dX2_passDrawn_53 : decode cX2_passDrawn 53 = .ok (.iconst 1, 1) := by decide +kernel
theorem dX2_passDrawn_54 : decode cX2_passDrawn 54 = .ok (.goto 4, 3) := by decide +kernel
theorem dX2_passDrawn_57 : decode cX2_passDrawn 57 = .ok (.iconst 0, 1) := by decide +kernel
theorem dX2_passDrawn_58 : decode cX2_passDrawn 58 = .ok (.ireturn, 1) := by decide +kernel
theorem dX2_drawBelow_0 : decode cX2_drawBelow 0 = .ok (.aload_n 0, 1) := by decide +kernel
theorem dX2_drawBelow_1 : decode cX2_drawBelow 1 = .ok (.aload_n 0, 1) := by decide +kernel
theorem dX2_drawBelow_2 : decode cX2_drawBelow 2 = .ok (.getfield 49, 3) := by decide +kernel
theorem dX2_drawBelow_5 : decode cX2_drawBelow 5 = .ok (.ldc2_w 74, 3) := by decide +kernel
theorem dX2_drawBelow_8 : decode cX2_drawBelow 8 = .ok (.lmul, 1) := by decide +kernel
theorem dX2_drawBelow_9 : decode cX2_drawBelow 9 = .ok (.ldc2_w 76, 3) := by decide +kernel
theorem dX2_drawBelow_12 : decode cX2_drawBelow 12 = .ok (.ladd, 1) := by decide +kernel
theorem dX2_drawBelow_13 : decode cX2_drawBelow 13 = .ok (.ldc2_w 78, 3) := by decide +kernel
theorem dX2_drawBelow_16 : decode cX2_drawBelow 16 = .ok (.lrem, 1) := by decide +kernel
theorem dX2_drawBelow_17 : decode cX2_drawBelow 17 = .ok (.putfield 49, 3) := by decide +kernel
theorem dX2_drawBelow_20 : decode cX2_drawBelow 20 = .ok (.iload_n 1, 1) := by decide +kernel
theorem dX2_drawBelow_21 : decode cX2_drawBelow 21 = .ok (.ifCond .gt 7, 3) := by decide +kernel
theorem dX2_drawBelow_24 : decode cX2_drawBelow 24 = .ok (.iconst 0, 1) := by decide +kernel
theorem dX2_drawBelow_25 : decode cX2_drawBelow 25 = .ok (.goto 14, 3) := by decide +kernel
theorem dX2_drawBelow_28 : decode cX2_drawBelow 28 = .ok (.aload_n 0, 1) := by decide +kernel
theorem dX2_drawBelow_29 : decode cX2_drawBelow 29 = .ok (.getfield 49, 3) := by decide +kernel
theorem dX2_drawBelow_32 : decode cX2_drawBelow 32 = .ok (.ldc2_w 80, 3) := by decide +kernel
theorem dX2_drawBelow_35 : decode cX2_drawBelow 35 = .ok (.ldiv, 1) := by decide +kernel
theorem dX2_drawBelow_36 : decode cX2_drawBelow 36 = .ok (.l2i, 1) := by decide +kernel
theorem dX2_drawBelow_37 : decode cX2_drawBelow 37 = .ok (.iload_n 1, 1) := by decide +kernel
theorem dX2_drawBelow_38 : decode cX2_drawBelow 38 = .ok (.irem, 1) := by decide +kernel
theorem dX2_drawBelow_39 : decode cX2_drawBelow 39 = .ok (.ireturn, 1) := by decide +kernel
theorem dX2_close_0 : decode cX2_close 0 = .ok (.aload_n 1, 1) := by decide +kernel
theorem dX2_close_1 : decode cX2_close 1 = .ok (.aload_n 2, 1) := by decide +kernel
theorem dX2_close_2 : decode cX2_close 2 = .ok (.getfield 82, 3) := by decide +kernel
theorem dX2_close_5 : decode cX2_close 5 = .ok (.invokevirtual 87, 3) := by decide +kernel
theorem dX2_close_8 : decode cX2_close 8 = .ok (.ifCond .eq 39, 3) := by decide +kernel
theorem dX2_close_11 : decode cX2_close 11 = .ok (.iconst 0, 1) := by decide +kernel
theorem dX2_close_12 : decode cX2_close 12 = .ok (.istore_n 3, 1) := by decide +kernel
theorem dX2_close_13 : decode cX2_close 13 = .ok (.iload_n 3, 1) := by decide +kernel
theorem dX2_close_14 : decode cX2_close 14 = .ok (.aload_n 1, 1) := by decide +kernel
theorem dX2_close_15 : decode cX2_close 15 = .ok (.getfield 63, 3) := by decide +kernel
theorem dX2_close_18 : decode cX2_close 18 = .ok (.if_icmp .ge 29, 3) := by decide +kernel
theorem dX2_close_21 : decode cX2_close 21 = .ok (.aload_n 2, 1) := by decide +kernel
theorem dX2_close_22 : decode cX2_close 22 = .ok (.getfield 91, 3) := by decide +kernel
theorem dX2_close_25 : decode cX2_close 25 = .ok (.iload_n 3, 1) := by decide +kernel
theorem dX2_close_26 : decode cX2_close 26 = .ok (.aload_n 1, 1) := by decide +kernel
theorem dX2_close_27 : decode cX2_close 27 = .ok (.aload_n 2, 1) := by decide +kernel
theorem dX2_close_28 : decode cX2_close 28 = .ok (.getfield 91, 3) := by decide +kernel
theorem dX2_close_31 : decode cX2_close 31 = .ok (.iload_n 3, 1) := by decide +kernel
theorem dX2_close_32 : decode cX2_close 32 = .ok (.laload, 1) := by decide +kernel
theorem dX2_close_33 : decode cX2_close 33 = .ok (.aload_n 2, 1) := by decide +kernel
theorem dX2_close_34 : decode cX2_close 34 = .ok (.getfield 82, 3) := by decide +kernel
theorem dX2_close_37 : decode cX2_close 37 = .ok (.invokevirtual 94, 3) := by decide +kernel
theorem dX2_close_40 : decode cX2_close 40 = .ok (.lastore, 1) := by decide +kernel
theorem dX2_close_41 : decode cX2_close 41 = .ok (.iinc 3 1, 3) := by decide +kernel
theorem dX2_close_44 : decode cX2_close 44 = .ok (.goto (-31), 3) := by decide +kernel
theorem dX2_close_47 : decode cX2_close 47 = .ok (.aload_n 2, 1) := by decide +kernel
theorem dX2_close_48 : decode cX2_close 48 = .ok (.sipush 999, 3) := by decide +kernel
theorem dX2_close_51 : decode cX2_close 51 = .ok (.aload_n 2, 1) := by decide +kernel
theorem dX2_close_52 : decode cX2_close 52 = .ok (.getfield 82, 3) := by decide +kernel
theorem dX2_close_55 : decode cX2_close 55 = .ok (.iconst 1, 1) := by decide +kernel
theorem dX2_close_56 : decode cX2_close 56 = .ok (.iadd, 1) := by decide +kernel
theorem dX2_close_57 : decode cX2_close 57 = .ok (.invokestatic 98, 3) := by decide +kernel
theorem dX2_close_60 : decode cX2_close 60 = .ok (.putfield 82, 3) := by decide +kernel
theorem dX2_close_63 : decode cX2_close 63 = .ok (.aload_n 2, 1) := by decide +kernel
theorem dX2_close_64 : decode cX2_close 64 = .ok (.getfield 82, 3) := by decide +kernel
theorem dX2_close_67 : decode cX2_close 67 = .ok (.bipush 24, 2) := by decide +kernel
theorem dX2_close_69 : decode cX2_close 69 = .ok (.irem, 1) := by decide +kernel
theorem dX2_close_70 : decode cX2_close 70 = .ok (.bipush 12, 2) := by decide +kernel
theorem dX2_close_72 : decode cX2_close 72 = .ok (.if_icmp .ne 53, 3) := by decide +kernel
theorem dX2_close_75 : decode cX2_close 75 = .ok (.iconst 0, 1) := by decide +kernel
theorem dX2_close_76 : decode cX2_close 76 = .ok (.istore_n 3, 1) := by decide +kernel
theorem dX2_close_77 : decode cX2_close 77 = .ok (.iload_n 3, 1) := by decide +kernel
theorem dX2_close_78 : decode cX2_close 78 = .ok (.aload_n 1, 1) := by decide +kernel
theorem dX2_close_79 : decode cX2_close 79 = .ok (.getfield 104, 3) := by decide +kernel
theorem dX2_close_82 : decode cX2_close 82 = .ok (.if_icmp .ge 43, 3) := by decide +kernel
theorem dX2_close_85 : decode cX2_close 85 = .ok (.aload_n 1, 1) := by decide +kernel
theorem dX2_close_86 : decode cX2_close 86 = .ok (.aload_n 2, 1) := by decide +kernel
theorem dX2_close_87 : decode cX2_close 87 = .ok (.iload_n 3, 1) := by decide +kernel
theorem dX2_close_88 : decode cX2_close 88 = .ok (.invokevirtual 107, 3) := by decide +kernel
theorem dX2_close_91 : decode cX2_close 91 = .ok (.istore 4, 2) := by decide +kernel
theorem dX2_close_93 : decode cX2_close 93 = .ok (.aload_n 0, 1) := by decide +kernel
theorem dX2_close_94 : decode cX2_close 94 = .ok (.aload_n 2, 1) := by decide +kernel
theorem dX2_close_95 : decode cX2_close 95 = .ok (.iload 4, 2) := by decide +kernel
theorem dX2_close_97 : decode cX2_close 97 = .ok (.aload_n 1, 1) := by decide +kernel
theorem dX2_close_98 : decode cX2_close 98 = .ok (.getfield 111, 3) := by decide +kernel
theorem dX2_close_101 : decode cX2_close 101 = .ok (.iload_n 3, 1) := by decide +kernel
theorem dX2_close_102 : decode cX2_close 102 = .ok (.iaload, 1) := by decide +kernel
theorem dX2_close_103 : decode cX2_close 103 = .ok (.aload_n 1, 1) := by decide +kernel
theorem dX2_close_104 : decode cX2_close 104 = .ok (.getfield 114, 3) := by decide +kernel
theorem dX2_close_107 : decode cX2_close 107 = .ok (.invokestatic 117, 3) := by decide +kernel
theorem dX2_close_110 : decode cX2_close 110 = .ok (.aload_n 1, 1) := by decide +kernel
theorem dX2_close_111 : decode cX2_close 111 = .ok (.getfield 121, 3) := by decide +kernel
theorem dX2_close_114 : decode cX2_close 114 = .ok (.iload_n 3, 1) := by decide +kernel
theorem dX2_close_115 : decode cX2_close 115 = .ok (.iaload, 1) := by decide +kernel
theorem dX2_close_116 : decode cX2_close 116 = .ok (.invokevirtual 124, 3) := by decide +kernel
theorem dX2_close_119 : decode cX2_close 119 = .ok (.iinc 3 1, 3) := by decide +kernel
theorem dX2_close_122 : decode cX2_close 122 = .ok (.goto (-45), 3) := by decide +kernel
theorem dX2_close_125 : decode cX2_close 125 = .ok (.return_, 1) := by decide +kernel
theorem dX2_payRent_0 : decode cX2_payRent 0 = .ok (.iload_n 2, 1) := by decide +kernel
theorem dX2_payRent_1 : decode cX2_payRent 1 = .ok (.iconst (-1), 1) := by decide +kernel
theorem dX2_payRent_2 : decode cX2_payRent 2 = .ok (.if_icmp .eq 33, 3) := by decide +kernel
theorem dX2_payRent_5 : decode cX2_payRent 5 = .ok (.aload_n 1, 1) := by decide +kernel
theorem dX2_payRent_6 : decode cX2_payRent 6 = .ok (.getfield 127, 3) := by decide +kernel
theorem dX2_payRent_9 : decode cX2_payRent 9 = .ok (.iload_n 2, 1) := by decide +kernel
theorem dX2_payRent_10 : decode cX2_payRent 10 = .ok (.sipush 999, 3) := by decide +kernel
theorem dX2_payRent_13 : decode cX2_payRent 13 = .ok (.aload_n 1, 1) := by decide +kernel
theorem dX2_payRent_14 : decode cX2_payRent 14 = .ok (.getfield 127, 3) := by decide +kernel
theorem dX2_payRent_17 : decode cX2_payRent 17 = .ok (.iload_n 2, 1) := by decide +kernel
theorem dX2_payRent_18 : decode cX2_payRent 18 = .ok (.iaload, 1) := by decide +kernel
theorem dX2_payRent_19 : decode cX2_payRent 19 = .ok (.iload_n 3, 1) := by decide +kernel
theorem dX2_payRent_20 : decode cX2_payRent 20 = .ok (.iadd, 1) := by decide +kernel
theorem dX2_payRent_21 : decode cX2_payRent 21 = .ok (.invokestatic 98, 3) := by decide +kernel
theorem dX2_payRent_24 : decode cX2_payRent 24 = .ok (.iastore, 1) := by decide +kernel
theorem dX2_payRent_25 : decode cX2_payRent 25 = .ok (.aload_n 0, 1) := by decide +kernel
theorem dX2_payRent_26 : decode cX2_payRent 26 = .ok (.getfield 32, 3) := by decide +kernel
theorem dX2_payRent_29 : decode cX2_payRent 29 = .ok (.iload_n 2, 1) := by decide +kernel
theorem dX2_payRent_30 : decode cX2_payRent 30 = .ok (.dup2, 1) := by decide +kernel
theorem dX2_payRent_31 : decode cX2_payRent 31 = .ok (.iaload, 1) := by decide +kernel
theorem dX2_payRent_32 : decode cX2_payRent 32 = .ok (.iload_n 3, 1) := by decide +kernel
theorem dX2_payRent_33 : decode cX2_payRent 33 = .ok (.iadd, 1) := by decide +kernel
theorem dX2_payRent_34 : decode cX2_payRent 34 = .ok (.iastore, 1) := by decide +kernel
theorem dX2_payRent_35 : decode cX2_payRent 35 = .ok (.return_, 1) := by decide +kernel
theorem dX2_paintBy_0 : decode cX2_paintBy 0 = .ok (.iconst 0, 1) := by decide +kernel
theorem dX2_paintBy_1 : decode cX2_paintBy 1 = .ok (.istore 4, 2) := by decide +kernel
theorem dX2_paintBy_3 : decode cX2_paintBy 3 = .ok (.iload 4, 2) := by decide +kernel
theorem dX2_paintBy_5 : decode cX2_paintBy 5 = .ok (.aload_n 2, 1) := by decide +kernel
theorem dX2_paintBy_6 : decode cX2_paintBy 6 = .ok (.getfield 104, 3) := by decide +kernel
theorem dX2_paintBy_9 : decode cX2_paintBy 9 = .ok (.if_icmp .ge 17, 3) := by decide +kernel
theorem dX2_paintBy_12 : decode cX2_paintBy 12 = .ok (.aload_n 0, 1) := by decide +kernel
theorem dX2_paintBy_13 : decode cX2_paintBy 13 = .ok (.aload_n 2, 1) := by decide +kernel
theorem dX2_paintBy_14 : decode cX2_paintBy 14 = .ok (.aload_n 3, 1) := by decide +kernel
theorem dX2_paintBy_15 : decode cX2_paintBy 15 = .ok (.iload 4, 2) := by decide +kernel
theorem dX2_paintBy_17 : decode cX2_paintBy 17 = .ok (.invokevirtual 130, 3) := by decide +kernel
theorem dX2_paintBy_20 : decode cX2_paintBy 20 = .ok (.iinc 4 1, 3) := by decide +kernel
theorem dX2_paintBy_23 : decode cX2_paintBy 23 = .ok (.goto (-20), 3) := by decide +kernel
theorem dX2_paintBy_26 : decode cX2_paintBy 26 = .ok (.aload_n 0, 1) := by decide +kernel
theorem dX2_paintBy_27 : decode cX2_paintBy 27 = .ok (.getfield 11, 3) := by decide +kernel
theorem dX2_paintBy_30 : decode cX2_paintBy 30 = .ok (.bipush 11, 2) := by decide +kernel
theorem dX2_paintBy_32 : decode cX2_paintBy 32 = .ok (.aload_n 3, 1) := by decide +kernel
theorem dX2_paintBy_33 : decode cX2_paintBy 33 = .ok (.getfield 82, 3) := by decide +kernel
theorem dX2_paintBy_36 : decode cX2_paintBy 36 = .ok (.i2l, 1) := by decide +kernel
theorem dX2_paintBy_37 : decode cX2_paintBy 37 = .ok (.lastore, 1) := by decide +kernel
theorem dX2_paintBy_38 : decode cX2_paintBy 38 = .ok (.aload_n 0, 1) := by decide +kernel
theorem dX2_paintBy_39 : decode cX2_paintBy 39 = .ok (.getfield 11, 3) := by decide +kernel
theorem dX2_paintBy_42 : decode cX2_paintBy 42 = .ok (.bipush 12, 2) := by decide +kernel
theorem dX2_paintBy_44 : decode cX2_paintBy 44 = .ok (.aload_n 2, 1) := by decide +kernel
theorem dX2_paintBy_45 : decode cX2_paintBy 45 = .ok (.aload_n 3, 1) := by decide +kernel
theorem dX2_paintBy_46 : decode cX2_paintBy 46 = .ok (.getfield 82, 3) := by decide +kernel
theorem dX2_paintBy_49 : decode cX2_paintBy 49 = .ok (.invokevirtual 87, 3) := by decide +kernel
theorem dX2_paintBy_52 : decode cX2_paintBy 52 = .ok (.ifCond .eq 7, 3) := by decide +kernel
theorem dX2_paintBy_55 : decode cX2_paintBy 55 = .ok (.lconst 1, 1) := by decide +kernel
theorem dX2_paintBy_56 : decode cX2_paintBy 56 = .ok (.goto 4, 3) := by decide +kernel
theorem dX2_paintBy_59 : decode cX2_paintBy 59 = .ok (.lconst 0, 1) := by decide +kernel
theorem dX2_paintBy_60 : decode cX2_paintBy 60 = .ok (.lastore, 1) := by decide +kernel
theorem dX2_paintBy_61 : decode cX2_paintBy 61 = .ok (.iconst 0, 1) := by decide +kernel
theorem dX2_paintBy_62 : decode cX2_paintBy 62 = .ok (.istore 4, 2) := by decide +kernel
theorem dX2_paintBy_64 : decode cX2_paintBy 64 = .ok (.iconst 0, 1) := by decide +kernel
theorem dX2_paintBy_65 : decode cX2_paintBy 65 = .ok (.istore 5, 2) := by decide +kernel
theorem dX2_paintBy_67 : decode cX2_paintBy 67 = .ok (.iload 5, 2) := by decide +kernel
theorem dX2_paintBy_69 : decode cX2_paintBy 69 = .ok (.aload_n 2, 1) := by decide +kernel
theorem dX2_paintBy_70 : decode cX2_paintBy 70 = .ok (.getfield 53, 3) := by decide +kernel
theorem dX2_paintBy_73 : decode cX2_paintBy 73 = .ok (.if_icmp .ge 65, 3) := by decide +kernel
theorem dX2_paintBy_76 : decode cX2_paintBy 76 = .ok (.aload_n 3, 1) := by decide +kernel
theorem dX2_paintBy_77 : decode cX2_paintBy 77 = .ok (.getfield 127, 3) := by decide +kernel
theorem dX2_paintBy_80 : decode cX2_paintBy 80 = .ok (.iload 5, 2) := by decide +kernel
theorem dX2_paintBy_82 : decode cX2_paintBy 82 = .ok (.iaload, 1) := by decide +kernel
theorem dX2_paintBy_83 : decode cX2_paintBy 83 = .ok (.aload_n 2, 1) := by decide +kernel
theorem dX2_paintBy_84 : decode cX2_paintBy 84 = .ok (.getfield 134, 3) := by decide +kernel
theorem dX2_paintBy_87 : decode cX2_paintBy 87 = .ok (.if_icmp .lt 45, 3) := by decide +kernel
theorem dX2_paintBy_90 : decode cX2_paintBy 90 = .ok (.aload_n 0, 1) := by decide +kernel
theorem dX2_paintBy_91 : decode cX2_paintBy 91 = .ok (.aload_n 1, 1) := by decide +kernel
theorem dX2_paintBy_92 : decode cX2_paintBy 92 = .ok (.aload_n 2, 1) := by decide +kernel
theorem dX2_paintBy_93 : decode cX2_paintBy 93 = .ok (.aload_n 3, 1) := by decide +kernel
theorem dX2_paintBy_94 : decode cX2_paintBy 94 = .ok (.iload 5, 2) := by decide +kernel
theorem dX2_paintBy_96 : decode cX2_paintBy 96 = .ok (.invokevirtual 137, 3) := by decide +kernel
theorem dX2_paintBy_99 : decode cX2_paintBy 99 = .ok (.istore 6, 2) := by decide +kernel
theorem dX2_paintBy_101 : decode cX2_paintBy 101 = .ok (.iload 6, 2) := by decide +kernel
theorem dX2_paintBy_103 : decode cX2_paintBy 103 = .ok (.iconst (-1), 1) := by decide +kernel
theorem dX2_paintBy_104 : decode cX2_paintBy 104 = .ok (.if_icmp .eq 28, 3) := by decide +kernel
theorem dX2_paintBy_107 : decode cX2_paintBy 107 = .ok (.aload_n 2, 1) := by decide +kernel
theorem dX2_paintBy_108 : decode cX2_paintBy 108 = .ok (.aload_n 3, 1) := by decide +kernel
theorem dX2_paintBy_109 : decode cX2_paintBy 109 = .ok (.iload 6, 2) := by decide +kernel
theorem dX2_paintBy_111 : decode cX2_paintBy 111 = .ok (.iload 5, 2) := by decide +kernel
theorem dX2_paintBy_113 : decode cX2_paintBy 113 = .ok (.invokevirtual 70, 3) := by decide +kernel
theorem dX2_paintBy_116 : decode cX2_paintBy 116 = .ok (.aload_n 0, 1) := by decide +kernel
theorem dX2_paintBy_117 : decode cX2_paintBy 117 = .ok (.aload_n 2, 1) := by decide +kernel
theorem dX2_paintBy_118 : decode cX2_paintBy 118 = .ok (.aload_n 3, 1) := by decide +kernel
theorem dX2_paintBy_119 : decode cX2_paintBy 119 = .ok (.aload_n 2, 1) := by decide +kernel
theorem dX2_paintBy_120 : decode cX2_paintBy 120 = .ok (.getfield 141, 3) := by decide +kernel
theorem dX2_paintBy_123 : decode cX2_paintBy 123 = .ok (.iload 6, 2) := by decide +kernel
theorem dX2_paintBy_125 : decode cX2_paintBy 125 = .ok (.iaload, 1) := by decide +kernel
theorem dX2_paintBy_126 : decode cX2_paintBy 126 = .ok (.invokevirtual 130, 3) := by decide +kernel
theorem dX2_paintBy_129 : decode cX2_paintBy 129 = .ok (.iinc 4 1, 3) := by decide +kernel
theorem dX2_paintBy_132 : decode cX2_paintBy 132 = .ok (.iinc 5 1, 3) := by decide +kernel
theorem dX2_paintBy_135 : decode cX2_paintBy 135 = .ok (.goto (-68), 3) := by decide +kernel
theorem dX2_paintBy_138 : decode cX2_paintBy 138 = .ok (.iload 4, 2) := by decide +kernel
theorem dX2_paintBy_140 : decode cX2_paintBy 140 = .ok (.ireturn, 1) := by decide +kernel
theorem dX2_seeThing_0 : decode cX2_seeThing 0 = .ok (.iconst 0, 1) := by decide +kernel
theorem dX2_seeThing_1 : decode cX2_seeThing 1 = .ok (.istore 4, 2) := by decide +kernel
theorem dX2_seeThing_3 : decode cX2_seeThing 3 = .ok (.aload_n 1, 1) := by decide +kernel
theorem dX2_seeThing_4 : decode cX2_seeThing 4 = .ok (.getfield 144, 3) := by decide +kernel
theorem dX2_seeThing_7 : decode cX2_seeThing 7 = .ok (.iload_n 3, 1) := by decide +kernel
theorem dX2_seeThing_8 : decode cX2_seeThing 8 = .ok (.iaload, 1) := by decide +kernel
theorem dX2_seeThing_9 : decode cX2_seeThing 9 = .ok (.istore 5, 2) := by decide +kernel
theorem dX2_seeThing_11 : decode cX2_seeThing 11 = .ok (.iload 5, 2) := by decide +kernel
theorem dX2_seeThing_13 : decode cX2_seeThing 13 = .ok (.istore 6, 2) := by decide +kernel
theorem dX2_seeThing_15 : decode cX2_seeThing 15 = .ok (.iload 6, 2) := by decide +kernel
theorem dX2_seeThing_17 : decode cX2_seeThing 17 = .ok (.iload 5, 2) := by decide +kernel
theorem dX2_seeThing_19 : decode cX2_seeThing 19 = .ok (.aload_n 1, 1) := by decide +kernel
theorem dX2_seeThing_20 : decode cX2_seeThing 20 = .ok (.getfield 111, 3) := by decide +kernel
theorem dX2_seeThing_23 : decode cX2_seeThing 23 = .ok (.iload_n 3, 1) := by decide +kernel
theorem dX2_seeThing_24 : decode cX2_seeThing 24 = .ok (.iaload, 1) := by decide +kernel
theorem dX2_seeThing_25 : decode cX2_seeThing 25 = .ok (.iadd, 1) := by decide +kernel
theorem dX2_seeThing_26 : decode cX2_seeThing 26 = .ok (.if_icmp .ge 46, 3) := by decide +kernel
theorem dX2_seeThing_29 : decode cX2_seeThing 29 = .ok (.aload_n 0, 1) := by decide +kernel
theorem dX2_seeThing_30 : decode cX2_seeThing 30 = .ok (.getfield 22, 3) := by decide +kernel
theorem dX2_seeThing_33 : decode cX2_seeThing 33 = .ok (.iload 6, 2) := by decide +kernel
theorem dX2_seeThing_35 : decode cX2_seeThing 35 = .ok (.aload_n 1, 1) := by decide +kernel
theorem dX2_seeThing_36 : decode cX2_seeThing 36 = .ok (.aload_n 2, 1) := by decide +kernel
theorem dX2_seeThing_37 : decode cX2_seeThing 37 = .ok (.getfield 91, 3) := by decide +kernel
theorem dX2_seeThing_40 : decode cX2_seeThing 40 = .ok (.iload 6, 2) := by decide +kernel
theorem dX2_seeThing_42 : decode cX2_seeThing 42 = .ok (.laload, 1) := by decide +kernel
theorem dX2_seeThing_43 : decode cX2_seeThing 43 = .ok (.aload_n 2, 1) := by decide +kernel
theorem dX2_seeThing_44 : decode cX2_seeThing 44 = .ok (.getfield 82, 3) := by decide +kernel
theorem dX2_seeThing_47 : decode cX2_seeThing 47 = .ok (.invokevirtual 147, 3) := by decide +kernel
theorem dX2_seeThing_50 : decode cX2_seeThing 50 = .ok (.iastore, 1) := by decide +kernel
theorem dX2_seeThing_51 : decode cX2_seeThing 51 = .ok (.iload 4, 2) := by decide +kernel
theorem dX2_seeThing_53 : decode cX2_seeThing 53 = .ok (.aload_n 0, 1) := by decide +kernel
theorem dX2_seeThing_54 : decode cX2_seeThing 54 = .ok (.getfield 22, 3) := by decide +kernel
theorem dX2_seeThing_57 : decode cX2_seeThing 57 = .ok (.iload 6, 2) := by decide +kernel
theorem dX2_seeThing_59 : decode cX2_seeThing 59 = .ok (.iaload, 1) := by decide +kernel
theorem dX2_seeThing_60 : decode cX2_seeThing 60 = .ok (.invokestatic 151, 3) := by decide +kernel
theorem dX2_seeThing_63 : decode cX2_seeThing 63 = .ok (.iadd, 1) := by decide +kernel
theorem dX2_seeThing_64 : decode cX2_seeThing 64 = .ok (.istore 4, 2) := by decide +kernel
theorem dX2_seeThing_66 : decode cX2_seeThing 66 = .ok (.iinc 6 1, 3) := by decide +kernel
theorem dX2_seeThing_69 : decode cX2_seeThing 69 = .ok (.goto (-54), 3) := by decide +kernel
theorem dX2_seeThing_72 : decode cX2_seeThing 72 = .ok (.aload_n 0, 1) := by decide +kernel
theorem dX2_seeThing_73 : decode cX2_seeThing 73 = .ok (.getfield 26, 3) := by decide +kernel
theorem dX2_seeThing_76 : decode cX2_seeThing 76 = .ok (.iload_n 3, 1) := by decide +kernel
theorem dX2_seeThing_77 : decode cX2_seeThing 77 = .ok (.iload 4, 2) := by decide +kernel
theorem dX2_seeThing_79 : decode cX2_seeThing 79 = .ok (.iastore, 1) := by decide +kernel
theorem dX2_seeThing_80 : decode cX2_seeThing 80 = .ok (.aload_n 0, 1) := by decide +kernel
theorem dX2_seeThing_81 : decode cX2_seeThing 81 = .ok (.getfield 29, 3) := by decide +kernel
theorem dX2_seeThing_84 : decode cX2_seeThing 84 = .ok (.iload_n 3, 1) := by decide +kernel
theorem dX2_seeThing_85 : decode cX2_seeThing 85 = .ok (.iload 4, 2) := by decide +kernel
theorem dX2_seeThing_87 : decode cX2_seeThing 87 = .ok (.aload_n 1, 1) := by decide +kernel
theorem dX2_seeThing_88 : decode cX2_seeThing 88 = .ok (.getfield 111, 3) := by decide +kernel
theorem dX2_seeThing_91 : decode cX2_seeThing 91 = .ok (.iload_n 3, 1) := by decide +kernel
theorem dX2_seeThing_92 : decode cX2_seeThing 92 = .ok (.iaload, 1) := by decide +kernel
theorem dX2_seeThing_93 : decode cX2_seeThing 93 = .ok (.aload_n 1, 1) := by decide +kernel
theorem dX2_seeThing_94 : decode cX2_seeThing 94 = .ok (.getfield 114, 3) := by decide +kernel
theorem dX2_seeThing_97 : decode cX2_seeThing 97 = .ok (.invokestatic 117, 3) := by decide +kernel
theorem dX2_seeThing_100 : decode cX2_seeThing 100 = .ok (.iastore, 1) := by decide +kernel
theorem dX2_seeThing_101 : decode cX2_seeThing 101 = .ok (.return_, 1) := by decide +kernel
theorem dX2_choose_0 : decode cX2_choose 0 = .ok (.iconst (-1), 1) := by decide +kernel
theorem dX2_choose_1 : decode cX2_choose 1 = .ok (.istore 5, 2) := by decide +kernel
theorem dX2_choose_3 : decode cX2_choose 3 = .ok (.lconst 0, 1) := by decide +kernel
theorem dX2_choose_4 : decode cX2_choose 4 = .ok (.lstore 6, 2) := by decide +kernel
theorem dX2_choose_6 : decode cX2_choose 6 = .ok (.aload_n 0, 1) := by decide +kernel
theorem dX2_choose_7 : decode cX2_choose 7 = .ok (.getfield 11, 3) := by decide +kernel
theorem dX2_choose_10 : decode cX2_choose 10 = .ok (.iconst 0, 1) := by decide +kernel
theorem dX2_choose_11 : decode cX2_choose 11 = .ok (.iload 4, 2) := by decide +kernel
theorem dX2_choose_13 : decode cX2_choose 13 = .ok (.i2l, 1) := by decide +kernel
theorem dX2_choose_14 : decode cX2_choose 14 = .ok (.lastore, 1) := by decide +kernel
theorem dX2_choose_15 : decode cX2_choose 15 = .ok (.aload_n 0, 1) := by decide +kernel
theorem dX2_choose_16 : decode cX2_choose 16 = .ok (.getfield 11, 3) := by decide +kernel
theorem dX2_choose_19 : decode cX2_choose 19 = .ok (.bipush 10, 2) := by decide +kernel
theorem dX2_choose_21 : decode cX2_choose 21 = .ok (.aload_n 3, 1) := by decide +kernel
theorem dX2_choose_22 : decode cX2_choose 22 = .ok (.getfield 127, 3) := by decide +kernel
theorem dX2_choose_25 : decode cX2_choose 25 = .ok (.iload 4, 2) := by decide +kernel
theorem dX2_choose_27 : decode cX2_choose 27 = .ok (.iaload, 1) := by decide +kernel
theorem dX2_choose_28 : decode cX2_choose 28 = .ok (.i2l, 1) := by decide +kernel
theorem dX2_choose_29 : decode cX2_choose 29 = .ok (.lastore, 1) := by decide +kernel
theorem dX2_choose_30 : decode cX2_choose 30 = .ok (.iconst 0, 1) := by decide +kernel
theorem dX2_choose_31 : decode cX2_choose 31 = .ok (.istore 8, 2) := by decide +kernel
theorem dX2_choose_33 : decode cX2_choose 33 = .ok (.iload 8, 2) := by decide +kernel
theorem dX2_choose_35 : decode cX2_choose 35 = .ok (.aload_n 2, 1) := by decide +kernel
theorem dX2_choose_36 : decode cX2_choose 36 = .ok (.getfield 63, 3) := by decide +kernel
theorem dX2_choose_39 : decode cX2_choose 39 = .ok (.if_icmp .ge 63, 3) := by decide +kernel
theorem dX2_choose_42 : decode cX2_choose 42 = .ok (.aload_n 3, 1) := by decide +kernel
theorem dX2_choose_43 : decode cX2_choose 43 = .ok (.aload_n 2, 1) := by decide +kernel
theorem dX2_choose_44 : decode cX2_choose 44 = .ok (.getfield 141, 3) := by decide +kernel
theorem dX2_choose_47 : decode cX2_choose 47 = .ok (.iload 8, 2) := by decide +kernel
theorem dX2_choose_49 : decode cX2_choose 49 = .ok (.iaload, 1) := by decide +kernel
theorem dX2_choose_50 : decode cX2_choose 50 = .ok (.invokevirtual 154, 3) := by decide +kernel
theorem dX2_choose_53 : decode cX2_choose 53 = .ok (.ifCond .ne 43, 3) := by decide +kernel
theorem dX2_choose_56 : decode cX2_choose 56 = .ok (.aload_n 0, 1) := by decide +kernel
theorem dX2_choose_57 : decode cX2_choose 57 = .ok (.aload_n 2, 1) := by decide +kernel
theorem dX2_choose_58 : decode cX2_choose 58 = .ok (.aload_n 3, 1) := by decide +kernel
theorem dX2_choose_59 : decode cX2_choose 59 = .ok (.iload 4, 2) := by decide +kernel
theorem dX2_choose_61 : decode cX2_choose 61 = .ok (.iload 8, 2) := by decide +kernel
theorem dX2_choose_63 : decode cX2_choose 63 = .ok (.invokevirtual 157, 3) := by decide +kernel
theorem dX2_choose_66 : decode cX2_choose 66 = .ok (.aload_n 1, 1) := by decide +kernel
theorem dX2_choose_67 : decode cX2_choose 67 = .ok (.aload_n 0, 1) := by decide +kernel
theorem dX2_choose_68 : decode cX2_choose 68 = .ok (.getfield 11, 3) := by decide +kernel
theorem dX2_choose_71 : decode cX2_choose 71 = .ok (.aload_n 0, 1) := by decide +kernel
theorem dX2_choose_72 : decode cX2_choose 72 = .ok (.getfield 19, 3) := by decide +kernel
theorem dX2_choose_75 : decode cX2_choose 75 = .ok (.invokevirtual 161, 3) := by decide +kernel
theorem dX2_choose_78 : decode cX2_choose 78 = .ok (.lstore 9, 2) := by decide +kernel
theorem dX2_choose_80 : decode cX2_choose 80 = .ok (.lload 9, 2) := by decide +kernel
theorem dX2_choose_82 : decode cX2_choose 82 = .ok (.lload 6, 2) := by decide +kernel
theorem dX2_choose_84 : decode cX2_choose 84 = .ok (.lcmp, 1) := by decide +kernel
theorem dX2_choose_85 : decode cX2_choose 85 = .ok (.ifCond .le 11, 3) := by decide +kernel
theorem dX2_choose_88 : decode cX2_choose 88 = .ok (.lload 9, 2) := by decide +kernel
theorem dX2_choose_90 : decode cX2_choose 90 = .ok (.lstore 6, 2) := by decide +kernel
theorem dX2_choose_92 : decode cX2_choose 92 = .ok (.iload 8, 2) := by decide +kernel
theorem dX2_choose_94 : decode cX2_choose 94 = .ok (.istore 5, 2) := by decide +kernel
theorem dX2_choose_96 : decode cX2_choose 96 = .ok (.iinc 8 1, 3) := by decide +kernel
theorem dX2_choose_99 : decode cX2_choose 99 = .ok (.goto (-66), 3) := by decide +kernel
theorem dX2_choose_102 : decode cX2_choose 102 = .ok (.iload 5, 2) := by decide +kernel
theorem dX2_choose_104 : decode cX2_choose 104 = .ok (.ireturn, 1) := by decide +kernel
theorem dX2_setWords_0 : decode cX2_setWords 0 = .ok (.aload_n 1, 1) := by decide +kernel
theorem dX2_setWords_1 : decode cX2_setWords 1 = .ok (.getfield 141, 3) := by decide +kernel
theorem dX2_setWords_4 : decode cX2_setWords 4 = .ok (.iload 4, 2) := by decide +kernel
theorem dX2_setWords_6 : decode cX2_setWords 6 = .ok (.iaload, 1) := by decide +kernel
theorem dX2_setWords_7 : decode cX2_setWords 7 = .ok (.istore 5, 2) := by decide +kernel
theorem dX2_setWords_9 : decode cX2_setWords 9 = .ok (.aload_n 2, 1) := by decide +kernel
theorem dX2_setWords_10 : decode cX2_setWords 10 = .ok (.getfield 91, 3) := by decide +kernel
theorem dX2_setWords_13 : decode cX2_setWords 13 = .ok (.iload 4, 2) := by decide +kernel
theorem dX2_setWords_15 : decode cX2_setWords 15 = .ok (.laload, 1) := by decide +kernel
theorem dX2_setWords_16 : decode cX2_setWords 16 = .ok (.lstore 6, 2) := by decide +kernel
theorem dX2_setWords_18 : decode cX2_setWords 18 = .ok (.aload_n 0, 1) := by decide +kernel
theorem dX2_setWords_19 : decode cX2_setWords 19 = .ok (.getfield 11, 3) := by decide +kernel
theorem dX2_setWords_22 : decode cX2_setWords 22 = .ok (.iconst 1, 1) := by decide +kernel
theorem dX2_setWords_23 : decode cX2_setWords 23 = .ok (.iload 4, 2) := by decide +kernel
theorem dX2_setWords_25 : decode cX2_setWords 25 = .ok (.i2l, 1) := by decide +kernel
theorem dX2_setWords_26 : decode cX2_setWords 26 = .ok (.lastore, 1) := by decide +kernel
theorem dX2_setWords_27 : decode cX2_setWords 27 = .ok (.aload_n 0, 1) := by decide +kernel
theorem dX2_setWords_28 : decode cX2_setWords 28 = .ok (.getfield 11, 3) := by decide +kernel
theorem dX2_setWords_31 : decode cX2_setWords 31 = .ok (.iconst 2, 1) := by decide +kernel
theorem dX2_setWords_32 : decode cX2_setWords 32 = .ok (.iload 5, 2) := by decide +kernel
theorem dX2_setWords_34 : decode cX2_setWords 34 = .ok (.i2l, 1) := by decide +kernel
theorem dX2_setWords_35 : decode cX2_setWords 35 = .ok (.lastore, 1) := by decide +kernel
theorem dX2_setWords_36 : decode cX2_setWords 36 = .ok (.aload_n 0, 1) := by decide +kernel
theorem dX2_setWords_37 : decode cX2_setWords 37 = .ok (.getfield 11, 3) := by decide +kernel
theorem dX2_setWords_40 : decode cX2_setWords 40 = .ok (.iconst 3, 1) := by decide +kernel
theorem dX2_setWords_41 : decode cX2_setWords 41 = .ok (.aload_n 1, 1) := by decide +kernel
theorem dX2_setWords_42 : decode cX2_setWords 42 = .ok (.getfield 121, 3) := by decide +kernel
theorem dX2_setWords_45 : decode cX2_setWords 45 = .ok (.iload 5, 2) := by decide +kernel
theorem dX2_setWords_47 : decode cX2_setWords 47 = .ok (.iaload, 1) := by decide +kernel
theorem dX2_setWords_48 : decode cX2_setWords 48 = .ok (.i2l, 1) := by decide +kernel
theorem dX2_setWords_49 : decode cX2_setWords 49 = .ok (.lastore, 1) := by decide +kernel
theorem dX2_setWords_50 : decode cX2_setWords 50 = .ok (.aload_n 0, 1) := by decide +kernel
theorem dX2_setWords_51 : decode cX2_setWords 51 = .ok (.getfield 11, 3) := by decide +kernel
theorem dX2_setWords_54 : decode cX2_setWords 54 = .ok (.iconst 4, 1) := by decide +kernel
theorem dX2_setWords_55 : decode cX2_setWords 55 = .ok (.lload 6, 2) := by decide +kernel
theorem dX2_setWords_57 : decode cX2_setWords 57 = .ok (.invokestatic 167, 3) := by decide +kernel
theorem dX2_setWords_60 : decode cX2_setWords 60 = .ok (.i2l, 1) := by decide +kernel
theorem dX2_setWords_61 : decode cX2_setWords 61 = .ok (.lastore, 1) := by decide +kernel
theorem dX2_setWords_62 : decode cX2_setWords 62 = .ok (.aload_n 0, 1) := by decide +kernel
theorem dX2_setWords_63 : decode cX2_setWords 63 = .ok (.getfield 11, 3) := by decide +kernel
theorem dX2_setWords_66 : decode cX2_setWords 66 = .ok (.iconst 5, 1) := by decide +kernel
theorem dX2_setWords_67 : decode cX2_setWords 67 = .ok (.aload_n 1, 1) := by decide +kernel
theorem dX2_setWords_68 : decode cX2_setWords 68 = .ok (.lload 6, 2) := by decide +kernel
theorem dX2_setWords_70 : decode cX2_setWords 70 = .ok (.aload_n 2, 1) := by decide +kernel
theorem dX2_setWords_71 : decode cX2_setWords 71 = .ok (.getfield 82, 3) := by decide +kernel
theorem dX2_setWords_74 : decode cX2_setWords 74 = .ok (.invokevirtual 173, 3) := by decide +kernel
theorem dX2_setWords_77 : decode cX2_setWords 77 = .ok (.ifCond .eq 7, 3) := by decide +kernel
theorem dX2_setWords_80 : decode cX2_setWords 80 = .ok (.lconst 1, 1) := by decide +kernel
theorem dX2_setWords_81 : decode cX2_setWords 81 = .ok (.goto 4, 3) := by decide +kernel
theorem dX2_setWords_84 : decode cX2_setWords 84 = .ok (.lconst 0, 1) := by decide +kernel
theorem dX2_setWords_85 : decode cX2_setWords 85 = .ok (.lastore, 1) := by decide +kernel
theorem dX2_setWords_86 : decode cX2_setWords 86 = .ok (.aload_n 0, 1) := by decide +kernel
theorem dX2_setWords_87 : decode cX2_setWords 87 = .ok (.getfield 11, 3) := by decide +kernel
theorem dX2_setWords_90 : decode cX2_setWords 90 = .ok (.bipush 6, 2) := by decide +kernel
theorem dX2_setWords_92 : decode cX2_setWords 92 = .ok (.aload_n 0, 1) := by decide +kernel
theorem dX2_setWords_93 : decode cX2_setWords 93 = .ok (.getfield 22, 3) := by decide +kernel
theorem dX2_setWords_96 : decode cX2_setWords 96 = .ok (.iload 4, 2) := by decide +kernel
theorem dX2_setWords_98 : decode cX2_setWords 98 = .ok (.iaload, 1) := by decide +kernel
theorem dX2_setWords_99 : decode cX2_setWords 99 = .ok (.i2l, 1) := by decide +kernel
theorem dX2_setWords_100 : decode cX2_setWords 100 = .ok (.lastore, 1) := by decide +kernel
theorem dX2_setWords_101 : decode cX2_setWords 101 = .ok (.aload_n 0, 1) := by decide +kernel
theorem dX2_setWords_102 : decode cX2_setWords 102 = .ok (.getfield 11, 3) := by decide +kernel
theorem dX2_setWords_105 : decode cX2_setWords 105 = .ok (.bipush 7, 2) := by decide +kernel
theorem dX2_setWords_107 : decode cX2_setWords 107 = .ok (.aload_n 0, 1) := by decide +kernel
theorem dX2_setWords_108 : decode cX2_setWords 108 = .ok (.getfield 26, 3) := by decide +kernel
theorem dX2_setWords_111 : decode cX2_setWords 111 = .ok (.iload 5, 2) := by decide +kernel
theorem dX2_setWords_113 : decode cX2_setWords 113 = .ok (.iaload, 1) := by decide +kernel
theorem dX2_setWords_114 : decode cX2_setWords 114 = .ok (.iload_n 3, 1) := by decide +kernel
theorem dX2_setWords_115 : decode cX2_setWords 115 = .ok (.invokestatic 177, 3) := by decide +kernel
theorem dX2_setWords_118 : decode cX2_setWords 118 = .ok (.i2l, 1) := by decide +kernel
theorem dX2_setWords_119 : decode cX2_setWords 119 = .ok (.lastore, 1) := by decide +kernel
theorem dX2_setWords_120 : decode cX2_setWords 120 = .ok (.aload_n 0, 1) := by decide +kernel
theorem dX2_setWords_121 : decode cX2_setWords 121 = .ok (.getfield 11, 3) := by decide +kernel
theorem dX2_setWords_124 : decode cX2_setWords 124 = .ok (.bipush 8, 2) := by decide +kernel
theorem dX2_setWords_126 : decode cX2_setWords 126 = .ok (.aload_n 0, 1) := by decide +kernel
theorem dX2_setWords_127 : decode cX2_setWords 127 = .ok (.getfield 29, 3) := by decide +kernel
theorem dX2_setWords_130 : decode cX2_setWords 130 = .ok (.iload 5, 2) := by decide +kernel
theorem dX2_setWords_132 : decode cX2_setWords 132 = .ok (.iaload, 1) := by decide +kernel
theorem dX2_setWords_133 : decode cX2_setWords 133 = .ok (.i2l, 1) := by decide +kernel
theorem dX2_setWords_134 : decode cX2_setWords 134 = .ok (.lastore, 1) := by decide +kernel
theorem dX2_setWords_135 : decode cX2_setWords 135 = .ok (.aload_n 0, 1) := by decide +kernel
theorem dX2_setWords_136 : decode cX2_setWords 136 = .ok (.getfield 11, 3) := by decide +kernel
theorem dX2_setWords_139 : decode cX2_setWords 139 = .ok (.bipush 9, 2) := by decide +kernel
theorem dX2_setWords_141 : decode cX2_setWords 141 = .ok (.lload 6, 2) := by decide +kernel
theorem dX2_setWords_143 : decode cX2_setWords 143 = .ok (.invokestatic 180, 3) := by decide +kernel
theorem dX2_setWords_146 : decode cX2_setWords 146 = .ok (.i2l, 1) := by decide +kernel
theorem dX2_setWords_147 : decode cX2_setWords 147 = .ok (.lastore, 1) := by decide +kernel
theorem dX2_setWords_148 : decode cX2_setWords 148 = .ok (.return_, 1) := by decide +kernel
theorem dX3_init_0 : decode cX3_init 0 = .ok (.aload_n 0, 1) := by decide +kernel
theorem dX3_init_1 : decode cX3_init 1 = .ok (.invokespecial 1, 3) := by decide +kernel
theorem dX3_init_4 : decode cX3_init 4 = .ok (.aload_n 0, 1) := by decide +kernel
theorem dX3_init_5 : decode cX3_init 5 = .ok (.aload_n 1, 1) := by decide +kernel
theorem dX3_init_6 : decode cX3_init 6 = .ok (.putfield 7, 3) := by decide +kernel
theorem dX3_init_9 : decode cX3_init 9 = .ok (.aload_n 0, 1) := by decide +kernel
theorem dX3_init_10 : decode cX3_init 10 = .ok (.aload_n 2, 1) := by decide +kernel
theorem dX3_init_11 : decode cX3_init 11 = .ok (.putfield 13, 3) := by decide +kernel
theorem dX3_init_14 : decode cX3_init 14 = .ok (.aload_n 0, 1) := by decide +kernel
theorem dX3_init_15 : decode cX3_init 15 = .ok (.aload_n 3, 1) := by decide +kernel
theorem dX3_init_16 : decode cX3_init 16 = .ok (.putfield 16, 3) := by decide +kernel
theorem dX3_init_19 : decode cX3_init 19 = .ok (.return_, 1) := by decide +kernel
theorem dX3_valueFor_0 : decode cX3_valueFor 0 = .ok (.iconst 0, 1) := by decide +kernel
theorem dX3_valueFor_1 : decode cX3_valueFor 1 = .ok (.istore_n 3, 1) := by decide +kernel
theorem dX3_valueFor_2 : decode cX3_valueFor 2 = .ok (.iconst 0, 1) := by decide +kernel
theorem dX3_valueFor_3 : decode cX3_valueFor 3 = .ok (.istore 4, 2) := by decide +kernel
theorem dX3_valueFor_5 : decode cX3_valueFor 5 = .ok (.iload 4, 2) := by decide +kernel
theorem dX3_valueFor_7 : decode cX3_valueFor 7 = .ok (.aload_n 0, 1) := by decide +kernel
theorem dX3_valueFor_8 : decode cX3_valueFor 8 = .ok (.getfield 13, 3) := by decide +kernel
theorem dX3_valueFor_11 : decode cX3_valueFor 11 = .ok (.arraylength, 1) := by decide +kernel
theorem dX3_valueFor_12 : decode cX3_valueFor 12 = .ok (.if_icmp .ge 84, 3) := by decide +kernel
theorem dX3_valueFor_15 : decode cX3_valueFor 15 = .ok (.iload 4, 2) := by decide +kernel
theorem dX3_valueFor_17 : decode cX3_valueFor 17 = .ok (.aload_n 0, 1) := by decide +kernel
theorem dX3_valueFor_18 : decode cX3_valueFor 18 = .ok (.getfield 16, 3) := by decide +kernel
theorem dX3_valueFor_21 : decode cX3_valueFor 21 = .ok (.arraylength, 1) := by decide +kernel
theorem dX3_valueFor_22 : decode cX3_valueFor 22 = .ok (.if_icmp .ge 74, 3) := by decide +kernel
theorem dX3_valueFor_25 : decode cX3_valueFor 25 = .ok (.aload_n 0, 1) := by decide +kernel
theorem dX3_valueFor_26 : decode cX3_valueFor 26 = .ok (.getfield 13, 3) := by decide +kernel
theorem dX3_valueFor_29 : decode cX3_valueFor 29 = .ok (.iload 4, 2) := by decide +kernel
theorem dX3_valueFor_31 : decode cX3_valueFor 31 = .ok (.iaload, 1) := by decide +kernel
theorem dX3_valueFor_32 : decode cX3_valueFor 32 = .ok (.aload_n 0, 1) := by decide +kernel
theorem dX3_valueFor_33 : decode cX3_valueFor 33 = .ok (.getfield 16, 3) := by decide +kernel
theorem dX3_valueFor_36 : decode cX3_valueFor 36 = .ok (.iload 4, 2) := by decide +kernel
theorem dX3_valueFor_38 : decode cX3_valueFor 38 = .ok (.iaload, 1) := by decide +kernel
theorem dX3_valueFor_39 : decode cX3_valueFor 39 = .ok (.if_icmp .eq 28, 3) := by decide +kernel
theorem dX3_valueFor_42 : decode cX3_valueFor 42 = .ok (.aload_n 0, 1) := by decide +kernel
theorem dX3_valueFor_43 : decode cX3_valueFor 43 = .ok (.aload_n 0, 1) := by decide +kernel
theorem dX3_valueFor_44 : decode cX3_valueFor 44 = .ok (.getfield 13, 3) := by decide +kernel
theorem dX3_valueFor_47 : decode cX3_valueFor 47 = .ok (.iload 4, 2) := by decide +kernel
theorem dX3_valueFor_49 : decode cX3_valueFor 49 = .ok (.iaload, 1) := by decide +kernel
theorem dX3_valueFor_50 : decode cX3_valueFor 50 = .ok (.aload_n 0, 1) := by decide +kernel
theorem dX3_valueFor_51 : decode cX3_valueFor 51 = .ok (.getfield 16, 3) := by decide +kernel
theorem dX3_valueFor_54 : decode cX3_valueFor 54 = .ok (.iload 4, 2) := by decide +kernel
theorem dX3_valueFor_56 : decode cX3_valueFor 56 = .ok (.iaload, 1) := by decide +kernel
theorem dX3_valueFor_57 : decode cX3_valueFor 57 = .ok (.aload_n 1, 1) := by decide +kernel
theorem dX3_valueFor_58 : decode cX3_valueFor 58 = .ok (.aload_n 2, 1) := by decide +kernel
theorem dX3_valueFor_59 : decode cX3_valueFor 59 = .ok (.invokevirtual 19, 3) := by decide +kernel
theorem dX3_valueFor_62 : decode cX3_valueFor 62 = .ok (.lconst 0, 1) := by decide +kernel
theorem dX3_valueFor_63 : decode cX3_valueFor 63 = .ok (.lcmp, 1) := by decide +kernel
theorem dX3_valueFor_64 : decode cX3_valueFor 64 = .ok (.ifCond .eq 18, 3) := by decide +kernel
theorem dX3_valueFor_67 : decode cX3_valueFor 67 = .ok (.aload_n 0, 1) := by decide +kernel
theorem dX3_valueFor_68 : decode cX3_valueFor 68 = .ok (.iload_n 3, 1) := by decide +kernel
theorem dX3_valueFor_69 : decode cX3_valueFor 69 = .ok (.aload_n 0, 1) := by decide +kernel
theorem dX3_valueFor_70 : decode cX3_valueFor 70 = .ok (.getfield 13, 3) := by decide +kernel
theorem dX3_valueFor_73 : decode cX3_valueFor 73 = .ok (.iload 4, 2) := by decide +kernel
theorem dX3_valueFor_75 : decode cX3_valueFor 75 = .ok (.iaload, 1) := by decide +kernel
theorem dX3_valueFor_76 : decode cX3_valueFor 76 = .ok (.aload_n 1, 1) := by decide +kernel
theorem dX3_valueFor_77 : decode cX3_valueFor 77 = .ok (.aload_n 2, 1) := by decide +kernel
theorem dX3_valueFor_78 : decode cX3_valueFor 78 = .ok (.invokevirtual 19, 3) := by decide +kernel
theorem dX3_valueFor_81 : decode cX3_valueFor 81 = .ok (.lreturn, 1) := by decide +kernel
theorem dX3_valueFor_82 : decode cX3_valueFor 82 = .ok (.aload_n 0, 1) := by decide +kernel
theorem dX3_valueFor_83 : decode cX3_valueFor 83 = .ok (.getfield 16, 3) := by decide +kernel
theorem dX3_valueFor_86 : decode cX3_valueFor 86 = .ok (.iload 4, 2) := by decide +kernel
theorem dX3_valueFor_88 : decode cX3_valueFor 88 = .ok (.iaload, 1) := by decide +kernel
theorem dX3_valueFor_89 : decode cX3_valueFor 89 = .ok (.istore_n 3, 1) := by decide +kernel
theorem dX3_valueFor_90 : decode cX3_valueFor 90 = .ok (.iinc 4 1, 3) := by decide +kernel
theorem dX3_valueFor_93 : decode cX3_valueFor 93 = .ok (.goto (-88), 3) := by decide +kernel
theorem dX3_valueFor_96 : decode cX3_valueFor 96 = .ok (.lconst 0, 1) := by decide +kernel
theorem dX3_valueFor_97 : decode cX3_valueFor 97 = .ok (.lreturn, 1) := by decide +kernel
theorem dX3_run_0 : decode cX3_run 0 = .ok (.iconst 0, 1) := by decide +kernel
theorem dX3_run_1 : decode cX3_run 1 = .ok (.istore 5, 2) := by decide +kernel
theorem dX3_run_3 : decode cX3_run 3 = .ok (.iload_n 1, 1) := by decide +kernel
theorem dX3_run_4 : decode cX3_run 4 = .ok (.istore 6, 2) := by decide +kernel
theorem dX3_run_6 : decode cX3_run 6 = .ok (.iload 6, 2) := by decide +kernel
theorem dX3_run_8 : decode cX3_run 8 = .ok (.iload_n 2, 1) := by decide +kernel
theorem dX3_run_9 : decode cX3_run 9 = .ok (.if_icmp .ge 145, 3) := by decide +kernel
theorem dX3_run_12 : decode cX3_run 12 = .ok (.iload 6, 2) := by decide +kernel
theorem dX3_run_14 : decode cX3_run 14 = .ok (.aload_n 0, 1) := by decide +kernel
theorem dX3_run_15 : decode cX3_run 15 = .ok (.getfield 7, 3) := by decide +kernel
theorem dX3_run_18 : decode cX3_run 18 = .ok (.arraylength, 1) := by decide +kernel
theorem dX3_run_19 : decode cX3_run 19 = .ok (.if_icmp .ge 135, 3) := by decide +kernel
theorem dX3_run_22 : decode cX3_run 22 = .ok (.aload_n 0, 1) := by decide +kernel
theorem dX3_run_23 : decode cX3_run 23 = .ok (.getfield 7, 3) := by decide +kernel
theorem dX3_run_26 : decode cX3_run 26 = .ok (.iload 6, 2) := by decide +kernel
theorem dX3_run_28 : decode cX3_run 28 = .ok (.iaload, 1) := by decide +kernel
theorem dX3_run_29 : decode cX3_run 29 = .ok (.istore 7, 2) := by decide +kernel
theorem dX3_run_31 : decode cX3_run 31 = .ok (.iload 7, 2) := by decide +kernel
theorem dX3_run_33 : decode cX3_run 33 = .ok (.bipush 64, 2) := by decide +kernel
theorem dX3_run_35 : decode cX3_run 35 = .ok (.if_icmp .ge 10, 3) := by decide +kernel
theorem dX3_run_38 : decode cX3_run 38 = .ok (.iload 7, 2) := by decide +kernel
theorem dX3_run_40 : decode cX3_run 40 = .ok (.bipush 13, 2) := by decide +kernel
theorem dX3_run_42 : decode cX3_run 42 = .ok (.if_icmp .ge 42, 3) := by decide +kernel
theorem dX3_run_45 : decode cX3_run 45 = .ok (.iload 5, 2) := by decide +kernel
theorem dX3_run_47 : decode cX3_run 47 = .ok (.aload 4, 2) := by decide +kernel
theorem dX3_run_49 : decode cX3_run 49 = .ok (.arraylength, 1) := by decide +kernel
theorem dX3_run_50 : decode cX3_run 50 = .ok (.if_icmp .ge 98, 3) := by decide +kernel
theorem dX3_run_53 : decode cX3_run 53 = .ok (.aload 4, 2) := by decide +kernel
theorem dX3_run_55 : decode cX3_run 55 = .ok (.iload 5, 2) := by decide +kernel
theorem dX3_run_57 : decode cX3_run 57 = .ok (.iload 7, 2) := by decide +kernel
theorem dX3_run_59 : decode cX3_run 59 = .ok (.bipush 64, 2) := by decide +kernel
theorem dX3_run_61 : decode cX3_run 61 = .ok (.if_icmp .lt 12, 3) := by decide +kernel
theorem dX3_run_64 : decode cX3_run 64 = .ok (.iload 7, 2) := by decide +kernel
theorem dX3_run_66 : decode cX3_run 66 = .ok (.bipush 64, 2) := by decide +kernel
theorem dX3_run_68 : decode cX3_run 68 = .ok (.isub, 1) := by decide +kernel
theorem dX3_run_69 : decode cX3_run 69 = .ok (.i2l, 1) := by decide +kernel
theorem dX3_run_70 : decode cX3_run 70 = .ok (.goto 7, 3) := by decide +kernel
theorem dX3_run_73 : decode cX3_run 73 = .ok (.aload_n 3, 1) := by decide +kernel
theorem dX3_run_74 : decode cX3_run 74 = .ok (.iload 7, 2) := by decide +kernel
theorem dX3_run_76 : decode cX3_run 76 = .ok (.laload, 1) := by decide +kernel
theorem dX3_run_77 : decode cX3_run 77 = .ok (.lastore, 1) := by decide +kernel
theorem dX3_run_78 : decode cX3_run 78 = .ok (.iinc 5 1, 3) := by decide +kernel
theorem dX3_run_81 : decode cX3_run 81 = .ok (.goto 67, 3) := by decide +kernel
theorem dX3_run_84 : decode cX3_run 84 = .ok (.iload 7, 2) := by decide +kernel
theorem dX3_run_86 : decode cX3_run 86 = .ok (.bipush 21, 2) := by decide +kernel
theorem dX3_run_88 : decode cX3_run 88 = .ok (.if_icmp .ne 27, 3) := by decide +kernel
theorem dX3_run_91 : decode cX3_run 91 = .ok (.iload 5, 2) := by decide +kernel
theorem dX3_run_93 : decode cX3_run 93 = .ok (.ifCond .le 55, 3) := by decide +kernel
theorem dX3_run_96 : decode cX3_run 96 = .ok (.aload 4, 2) := by decide +kernel
theorem dX3_run_98 : decode cX3_run 98 = .ok (.iload 5, 2) := by decide +kernel
theorem dX3_run_100 : decode cX3_run 100 = .ok (.iconst 1, 1) := by decide +kernel
theorem dX3_run_101 : decode cX3_run 101 = .ok (.isub, 1) := by decide +kernel
theorem dX3_run_102 : decode cX3_run 102 = .ok (.lconst 1, 1) := by decide +kernel
theorem dX3_run_103 : decode cX3_run 103 = .ok (.aload 4, 2) := by decide +kernel
theorem dX3_run_105 : decode cX3_run 105 = .ok (.iload 5, 2) := by decide +kernel
theorem dX3_run_107 : decode cX3_run 107 = .ok (.iconst 1, 1) := by decide +kernel
theorem dX3_run_108 : decode cX3_run 108 = .ok (.isub, 1) := by decide +kernel
theorem dX3_run_109 : decode cX3_run 109 = .ok (.laload, 1) := by decide +kernel
theorem dX3_run_110 : decode cX3_run 110 = .ok (.lsub, 1) := by decide +kernel
theorem dX3_run_111 : decode cX3_run 111 = .ok (.lastore, 1) := by decide +kernel
theorem dX3_run_112 : decode cX3_run 112 = .ok (.goto 36, 3) := by decide +kernel
theorem dX3_run_115 : decode cX3_run 115 = .ok (.iload 5, 2) := by decide +kernel
theorem dX3_run_117 : decode cX3_run 117 = .ok (.iconst 1, 1) := by decide +kernel
theorem dX3_run_118 : decode cX3_run 118 = .ok (.if_icmp .le 30, 3) := by decide +kernel
theorem dX3_run_121 : decode cX3_run 121 = .ok (.iinc 5 (-1), 3) := by decide +kernel
theorem dX3_run_124 : decode cX3_run 124 = .ok (.aload 4, 2) := by decide +kernel
theorem dX3_run_126 : decode cX3_run 126 = .ok (.iload 5, 2) := by decide +kernel
theorem dX3_run_128 : decode cX3_run 128 = .ok (.iconst 1, 1) := by decide +kernel
theorem dX3_run_129 : decode cX3_run 129 = .ok (.isub, 1) := by decide +kernel
theorem dX3_run_130 : decode cX3_run 130 = .ok (.iload 7, 2) := by decide +kernel
theorem dX3_run_132 : decode cX3_run 132 = .ok (.aload 4, 2) := by decide +kernel
theorem dX3_run_134 : decode cX3_run 134 = .ok (.iload 5, 2) := by decide +kernel
theorem dX3_run_136 : decode cX3_run 136 = .ok (.iconst 1, 1) := by decide +kernel
theorem dX3_run_137 : decode cX3_run 137 = .ok (.isub, 1) := by decide +kernel
theorem dX3_run_138 : decode cX3_run 138 = .ok (.laload, 1) := by decide +kernel
theorem dX3_run_139 : decode cX3_run 139 = .ok (.aload 4, 2) := by decide +kernel
theorem dX3_run_141 : decode cX3_run 141 = .ok (.iload 5, 2) := by decide +kernel
theorem dX3_run_143 : decode cX3_run 143 = .ok (.laload, 1) := by decide +kernel
theorem dX3_run_144 : decode cX3_run 144 = .ok (.invokestatic 25, 3) := by decide +kernel
theorem dX3_run_147 : decode cX3_run 147 = .ok (.lastore, 1) := by decide +kernel
theorem dX3_run_148 : decode cX3_run 148 = .ok (.iinc 6 1, 3) := by decide +kernel
theorem dX3_run_151 : decode cX3_run 151 = .ok (.goto (-145), 3) := by decide +kernel
theorem dX3_run_154 : decode cX3_run 154 = .ok (.iload 5, 2) := by decide +kernel
theorem dX3_run_156 : decode cX3_run 156 = .ok (.ifCond .le 10, 3) := by decide +kernel
theorem dX3_run_159 : decode cX3_run 159 = .ok (.aload 4, 2) := by decide +kernel
theorem dX3_run_161 : decode cX3_run 161 = .ok (.iconst 0, 1) := by decide +kernel
theorem dX3_run_162 : decode cX3_run 162 = .ok (.laload, 1) := by decide +kernel
theorem dX3_run_163 : decode cX3_run 163 = .ok (.goto 4, 3) := by decide +kernel
theorem dX3_run_166 : decode cX3_run 166 = .ok (.lconst 0, 1) := by decide +kernel
theorem dX3_run_167 : decode cX3_run 167 = .ok (.lreturn, 1) := by decide +kernel
theorem dX3_joined_0 : decode cX3_joined 0 = .ok (.iload_n 0, 1) := by decide +kernel
theorem dX3_joined_1 : decode cX3_joined 1 = .ok (.tableswitch 183 19 34 #[179, 183, 183, 79, 83, 87, 91, 105, 119, 143, 167, 183, 183, 183, 131, 155], 79) := by decide +kernel
theorem dX3_joined_80 : decode cX3_joined 80 = .ok (.lload_n 1, 1) := by decide +kernel
theorem dX3_joined_81 : decode cX3_joined 81 = .ok (.lload_n 3, 1) := by decide +kernel
theorem dX3_joined_82 : decode cX3_joined 82 = .ok (.ladd, 1) := by decide +kernel
theorem dX3_joined_83 : decode cX3_joined 83 = .ok (.lreturn, 1) := by decide +kernel
theorem dX3_joined_84 : decode cX3_joined 84 = .ok (.lload_n 1, 1) := by decide +kernel
theorem dX3_joined_85 : decode cX3_joined 85 = .ok (.lload_n 3, 1) := by decide +kernel
theorem dX3_joined_86 : decode cX3_joined 86 = .ok (.lsub, 1) := by decide +kernel
theorem dX3_joined_87 : decode cX3_joined 87 = .ok (.lreturn, 1) := by decide +kernel
theorem dX3_joined_88 : decode cX3_joined 88 = .ok (.lload_n 1, 1) := by decide +kernel
theorem dX3_joined_89 : decode cX3_joined 89 = .ok (.lload_n 3, 1) := by decide +kernel
theorem dX3_joined_90 : decode cX3_joined 90 = .ok (.lmul, 1) := by decide +kernel
theorem dX3_joined_91 : decode cX3_joined 91 = .ok (.lreturn, 1) := by decide +kernel
theorem dX3_joined_92 : decode cX3_joined 92 = .ok (.lload_n 3, 1) := by decide +kernel
theorem dX3_joined_93 : decode cX3_joined 93 = .ok (.lconst 0, 1) := by decide +kernel
theorem dX3_joined_94 : decode cX3_joined 94 = .ok (.lcmp, 1) := by decide +kernel
theorem dX3_joined_95 : decode cX3_joined 95 = .ok (.ifCond .ne 7, 3) := by decide +kernel
theorem dX3_joined_98 : decode cX3_joined 98 = .ok (.lconst 0, 1) := by decide +kernel
theorem dX3_joined_99 : decode cX3_joined 99 = .ok (.goto 6, 3) := by decide +kernel
theorem dX3_joined_102 : decode cX3_joined 102 = .ok (.lload_n 1, 1) := by decide +kernel
theorem dX3_joined_103 : decode cX3_joined 103 = .ok (.lload_n 3, 1) := by decide +kernel
theorem dX3_joined_104 : decode cX3_joined 104 = .ok (.ldiv, 1) := by decide +kernel
theorem dX3_joined_105 : decode cX3_joined 105 = .ok (.lreturn, 1) := by decide +kernel
theorem dX3_joined_106 : decode cX3_joined 106 = .ok (.lload_n 3, 1) := by decide +kernel
theorem dX3_joined_107 : decode cX3_joined 107 = .ok (.lconst 0, 1) := by decide +kernel
theorem dX3_joined_108 : decode cX3_joined 108 = .ok (.lcmp, 1) := by decide +kernel
theorem dX3_joined_109 : decode cX3_joined 109 = .ok (.ifCond .ne 7, 3) := by decide +kernel
theorem dX3_joined_112 : decode cX3_joined 112 = .ok (.lconst 0, 1) := by decide +kernel
theorem dX3_joined_113 : decode cX3_joined 113 = .ok (.goto 6, 3) := by decide +kernel
theorem dX3_joined_116 : decode cX3_joined 116 = .ok (.lload_n 1, 1) := by decide +kernel
theorem dX3_joined_117 : decode cX3_joined 117 = .ok (.lload_n 3, 1) := by decide +kernel
theorem dX3_joined_118 : decode cX3_joined 118 = .ok (.lrem, 1) := by decide +kernel
theorem dX3_joined_119 : decode cX3_joined 119 = .ok (.lreturn, 1) := by decide +kernel
theorem dX3_joined_120 : decode cX3_joined 120 = .ok (.lload_n 1, 1) := by decide +kernel
theorem dX3_joined_121 : decode cX3_joined 121 = .ok (.lload_n 3, 1) := by decide +kernel
theorem dX3_joined_122 : decode cX3_joined 122 = .ok (.lcmp, 1) := by decide +kernel
theorem dX3_joined_123 : decode cX3_joined 123 = .ok (.ifCond .ge 7, 3) := by decide +kernel
theorem dX3_joined_126 : decode cX3_joined 126 = .ok (.lconst 1, 1) := by decide +kernel
theorem dX3_joined_127 : decode cX3_joined 127 = .ok (.goto 4, 3) := by decide +kernel
theorem dX3_joined_130 : decode cX3_joined 130 = .ok (.lconst 0, 1) := by decide +kernel
theorem dX3_joined_131 : decode cX3_joined 131 = .ok (.lreturn, 1) := by decide +kernel
theorem dX3_joined_132 : decode cX3_joined 132 = .ok (.lload_n 1, 1) := by decide +kernel
theorem dX3_joined_133 : decode cX3_joined 133 = .ok (.lload_n 3, 1) := by decide +kernel
theorem dX3_joined_134 : decode cX3_joined 134 = .ok (.lcmp, 1) := by decide +kernel
theorem dX3_joined_135 : decode cX3_joined 135 = .ok (.ifCond .gt 7, 3) := by decide +kernel
theorem dX3_joined_138 : decode cX3_joined 138 = .ok (.lconst 1, 1) := by decide +kernel
theorem dX3_joined_139 : decode cX3_joined 139 = .ok (.goto 4, 3) := by decide +kernel
theorem dX3_joined_142 : decode cX3_joined 142 = .ok (.lconst 0, 1) := by decide +kernel
theorem dX3_joined_143 : decode cX3_joined 143 = .ok (.lreturn, 1) := by decide +kernel
theorem dX3_joined_144 : decode cX3_joined 144 = .ok (.lload_n 1, 1) := by decide +kernel
theorem dX3_joined_145 : decode cX3_joined 145 = .ok (.lload_n 3, 1) := by decide +kernel
theorem dX3_joined_146 : decode cX3_joined 146 = .ok (.lcmp, 1) := by decide +kernel
theorem dX3_joined_147 : decode cX3_joined 147 = .ok (.ifCond .ne 7, 3) := by decide +kernel
theorem dX3_joined_150 : decode cX3_joined 150 = .ok (.lconst 1, 1) := by decide +kernel
theorem dX3_joined_151 : decode cX3_joined 151 = .ok (.goto 4, 3) := by decide +kernel
theorem dX3_joined_154 : decode cX3_joined 154 = .ok (.lconst 0, 1) := by decide +kernel
theorem dX3_joined_155 : decode cX3_joined 155 = .ok (.lreturn, 1) := by decide +kernel
theorem dX3_joined_156 : decode cX3_joined 156 = .ok (.lload_n 1, 1) := by decide +kernel
theorem dX3_joined_157 : decode cX3_joined 157 = .ok (.lload_n 3, 1) := by decide +kernel
theorem dX3_joined_158 : decode cX3_joined 158 = .ok (.lcmp, 1) := by decide +kernel
theorem dX3_joined_159 : decode cX3_joined 159 = .ok (.ifCond .lt 7, 3) := by decide +kernel
theorem dX3_joined_162 : decode cX3_joined 162 = .ok (.lconst 1, 1) := by decide +kernel
theorem dX3_joined_163 : decode cX3_joined 163 = .ok (.goto 4, 3) := by decide +kernel
theorem dX3_joined_166 : decode cX3_joined 166 = .ok (.lconst 0, 1) := by decide +kernel
theorem dX3_joined_167 : decode cX3_joined 167 = .ok (.lreturn, 1) := by decide +kernel
theorem dX3_joined_168 : decode cX3_joined 168 = .ok (.lload_n 1, 1) := by decide +kernel
theorem dX3_joined_169 : decode cX3_joined 169 = .ok (.lload_n 3, 1) := by decide +kernel
theorem dX3_joined_170 : decode cX3_joined 170 = .ok (.lcmp, 1) := by decide +kernel
theorem dX3_joined_171 : decode cX3_joined 171 = .ok (.ifCond .le 7, 3) := by decide +kernel
theorem dX3_joined_174 : decode cX3_joined 174 = .ok (.lconst 1, 1) := by decide +kernel
theorem dX3_joined_175 : decode cX3_joined 175 = .ok (.goto 4, 3) := by decide +kernel
theorem dX3_joined_178 : decode cX3_joined 178 = .ok (.lconst 0, 1) := by decide +kernel
theorem dX3_joined_179 : decode cX3_joined 179 = .ok (.lreturn, 1) := by decide +kernel
theorem dX3_joined_180 : decode cX3_joined 180 = .ok (.lload_n 1, 1) := by decide +kernel
theorem dX3_joined_181 : decode cX3_joined 181 = .ok (.lload_n 3, 1) := by decide +kernel
theorem dX3_joined_182 : decode cX3_joined 182 = .ok (.land, 1) := by decide +kernel
theorem dX3_joined_183 : decode cX3_joined 183 = .ok (.lreturn, 1) := by decide +kernel
theorem dX3_joined_184 : decode cX3_joined 184 = .ok (.lload_n 1, 1) := by decide +kernel
theorem dX3_joined_185 : decode cX3_joined 185 = .ok (.lload_n 3, 1) := by decide +kernel
theorem dX3_joined_186 : decode cX3_joined 186 = .ok (.lor, 1) := by decide +kernel
theorem dX3_joined_187 : decode cX3_joined 187 = .ok (.lreturn, 1) := by decide +kernel
theorem dX4_init_0 : decode cX4_init 0 = .ok (.aload_n 0, 1) := by decide +kernel
theorem dX4_init_1 : decode cX4_init 1 = .ok (.invokespecial 3, 3) := by decide +kernel
theorem dX4_init_4 : decode cX4_init 4 = .ok (.aload_n 0, 1) := by decide +kernel
theorem dX4_init_5 : decode cX4_init 5 = .ok (.sipush 400, 3) := by decide +kernel
theorem dX4_init_8 : decode cX4_init 8 = .ok (.newarray .int, 2) := by decide +kernel
theorem dX4_init_10 : decode cX4_init 10 = .ok (.putfield 9, 3) := by decide +kernel
theorem dX4_init_13 : decode cX4_init 13 = .ok (.aload_n 0, 1) := by decide +kernel
theorem dX4_init_14 : decode cX4_init 14 = .ok (.bipush 12, 2) := by decide +kernel
theorem dX4_init_16 : decode cX4_init 16 = .ok (.newarray .int, 2) := by decide +kernel
theorem dX4_init_18 : decode cX4_init 18 = .ok (.putfield 15, 3) := by decide +kernel
theorem dX4_init_21 : decode cX4_init 21 = .ok (.aload_n 0, 1) := by decide +kernel
theorem dX4_init_22 : decode cX4_init 22 = .ok (.bipush 12, 2) := by decide +kernel
theorem dX4_init_24 : decode cX4_init 24 = .ok (.newarray .int, 2) := by decide +kernel
theorem dX4_init_26 : decode cX4_init 26 = .ok (.putfield 18, 3) := by decide +kernel
theorem dX4_init_29 : decode cX4_init 29 = .ok (.aload_n 0, 1) := by decide +kernel
theorem dX4_init_30 : decode cX4_init 30 = .ok (.aload_n 1, 1) := by decide +kernel
theorem dX4_init_31 : decode cX4_init 31 = .ok (.putfield 21, 3) := by decide +kernel
theorem dX4_init_34 : decode cX4_init 34 = .ok (.return_, 1) := by decide +kernel
theorem dX4_made_0 : decode cX4_made 0 = .ok (.new 25, 3) := by decide +kernel
theorem dX4_made_3 : decode cX4_made 3 = .ok (.dup, 1) := by decide +kernel
theorem dX4_made_4 : decode cX4_made 4 = .ok (.aload_n 0, 1) := by decide +kernel
theorem dX4_made_5 : decode cX4_made 5 = .ok (.getfield 9, 3) := by decide +kernel
theorem dX4_made_8 : decode cX4_made 8 = .ok (.aload_n 0, 1) := by decide +kernel
theorem dX4_made_9 : decode cX4_made 9 = .ok (.getfield 27, 3) := by decide +kernel
theorem dX4_made_12 : decode cX4_made 12 = .ok (.invokestatic 31, 3) := by decide +kernel
theorem dX4_made_15 : decode cX4_made 15 = .ok (.aload_n 0, 1) := by decide +kernel
theorem dX4_made_16 : decode cX4_made 16 = .ok (.getfield 15, 3) := by decide +kernel
theorem dX4_made_19 : decode cX4_made 19 = .ok (.aload_n 0, 1) := by decide +kernel
theorem dX4_made_20 : decode cX4_made 20 = .ok (.getfield 37, 3) := by decide +kernel
theorem dX4_made_23 : decode cX4_made 23 = .ok (.invokestatic 31, 3) := by decide +kernel
theorem dX4_made_26 : decode cX4_made 26 = .ok (.aload_n 0, 1) := by decide +kernel
theorem dX4_made_27 : decode cX4_made 27 = .ok (.getfield 18, 3) := by decide +kernel
theorem dX4_made_30 : decode cX4_made 30 = .ok (.aload_n 0, 1) := by decide +kernel
theorem dX4_made_31 : decode cX4_made 31 = .ok (.getfield 37, 3) := by decide +kernel
theorem dX4_made_34 : decode cX4_made 34 = .ok (.invokestatic 31, 3) := by decide +kernel
theorem dX4_made_37 : decode cX4_made 37 = .ok (.invokespecial 40, 3) := by decide +kernel
theorem dX4_made_40 : decode cX4_made 40 = .ok (.areturn, 1) := by decide +kernel
theorem dX4_readAll_0 : decode cX4_readAll 0 = .ok (.aload_n 0, 1) := by decide +kernel
theorem dX4_readAll_1 : decode cX4_readAll 1 = .ok (.iconst 0, 1) := by decide +kernel
theorem dX4_readAll_2 : decode cX4_readAll 2 = .ok (.putfield 27, 3) := by decide +kernel
theorem dX4_readAll_5 : decode cX4_readAll 5 = .ok (.aload_n 0, 1) := by decide +kernel
theorem dX4_readAll_6 : decode cX4_readAll 6 = .ok (.iconst 0, 1) := by decide +kernel
theorem dX4_readAll_7 : decode cX4_readAll 7 = .ok (.putfield 37, 3) := by decide +kernel
theorem dX4_readAll_10 : decode cX4_readAll 10 = .ok (.aload_n 0, 1) := by decide +kernel
theorem dX4_readAll_11 : decode cX4_readAll 11 = .ok (.iconst 0, 1) := by decide +kernel
theorem dX4_readAll_12 : decode cX4_readAll 12 = .ok (.putfield 43, 3) := by decide +kernel
theorem dX4_readAll_15 : decode cX4_readAll 15 = .ok (.iconst 0, 1) := by decide +kernel
theorem dX4_readAll_16 : decode cX4_readAll 16 = .ok (.istore_n 1, 1) := by decide +kernel
theorem dX4_readAll_17 : decode cX4_readAll 17 = .ok (.iload_n 1, 1) := by decide +kernel
theorem dX4_readAll_18 : decode cX4_readAll 18 = .ok (.bipush 12, 2) := by decide +kernel
theorem dX4_readAll_20 : decode cX4_readAll 20 = .ok (.if_icmp .gt 159, 3) := by decide +kernel
theorem dX4_readAll_23 : decode cX4_readAll 23 = .ok (.aload_n 0, 1) := by decide +kernel
theorem dX4_readAll_24 : decode cX4_readAll 24 = .ok (.getfield 21, 3) := by decide +kernel
theorem dX4_readAll_27 : decode cX4_readAll 27 = .ok (.invokevirtual 46, 3) := by decide +kernel
theorem dX4_readAll_30 : decode cX4_readAll 30 = .ok (.bipush 17, 2) := by decide +kernel
theorem dX4_readAll_32 : decode cX4_readAll 32 = .ok (.if_icmp .eq 12, 3) := by decide +kernel
theorem dX4_readAll_35 : decode cX4_readAll 35 = .ok (.aload_n 0, 1) := by decide +kernel
theorem dX4_readAll_36 : decode cX4_readAll 36 = .ok (.getfield 21, 3) := by decide +kernel
theorem dX4_readAll_39 : decode cX4_readAll 39 = .ok (.iconst 0, 1) := by decide +kernel
theorem dX4_readAll_40 : decode cX4_readAll 40 = .ok (.invokevirtual 52, 3) := by decide +kernel
theorem dX4_readAll_43 : decode cX4_readAll 43 = .ok (.ireturn, 1) := by decide +kernel
theorem dX4_readAll_44 : decode cX4_readAll 44 = .ok (.iload_n 1, 1) := by decide +kernel
theorem dX4_readAll_45 : decode cX4_readAll 45 = .ok (.bipush 12, 2) := by decide +kernel
theorem dX4_readAll_47 : decode cX4_readAll 47 = .ok (.if_icmp .ne 12, 3) := by decide +kernel
theorem dX4_readAll_50 : decode cX4_readAll 50 = .ok (.aload_n 0, 1) := by decide +kernel
theorem dX4_readAll_51 : decode cX4_readAll 51 = .ok (.getfield 21, 3) := by decide +kernel
theorem dX4_readAll_54 : decode cX4_readAll 54 = .ok (.iconst 4, 1) := by decide +kernel
theorem dX4_readAll_55 : decode cX4_readAll 55 = .ok (.invokevirtual 52, 3) := by decide +kernel
theorem dX4_readAll_58 : decode cX4_readAll 58 = .ok (.ireturn, 1) := by decide +kernel
theorem dX4_readAll_59 : decode cX4_readAll 59 = .ok (.aload_n 0, 1) := by decide +kernel
theorem dX4_readAll_60 : decode cX4_readAll 60 = .ok (.getfield 21, 3) := by decide +kernel
theorem dX4_readAll_63 : decode cX4_readAll 63 = .ok (.invokevirtual 56, 3) := by decide +kernel
theorem dX4_readAll_66 : decode cX4_readAll 66 = .ok (.aload_n 0, 1) := by decide +kernel
theorem dX4_readAll_67 : decode cX4_readAll 67 = .ok (.invokevirtual 59, 3) := by decide +kernel
theorem dX4_readAll_70 : decode cX4_readAll 70 = .ok (.ifCond .ne 5, 3) := by decide +kernel
theorem dX4_readAll_73 : decode cX4_readAll 73 = .ok (.iconst 0, 1) := by decide +kernel
theorem dX4_readAll_74 : decode cX4_readAll 74 = .ok (.ireturn, 1) := by decide +kernel
theorem dX4_readAll_75 : decode cX4_readAll 75 = .ok (.aload_n 0, 1) := by decide +kernel
theorem dX4_readAll_76 : decode cX4_readAll 76 = .ok (.getfield 15, 3) := by decide +kernel
theorem dX4_readAll_79 : decode cX4_readAll 79 = .ok (.iload_n 1, 1) := by decide +kernel
theorem dX4_readAll_80 : decode cX4_readAll 80 = .ok (.aload_n 0, 1) := by decide +kernel
theorem dX4_readAll_81 : decode cX4_readAll 81 = .ok (.getfield 27, 3) := by decide +kernel
theorem dX4_readAll_84 : decode cX4_readAll 84 = .ok (.iastore, 1) := by decide +kernel
theorem dX4_readAll_85 : decode cX4_readAll 85 = .ok (.aload_n 0, 1) := by decide +kernel
theorem dX4_readAll_86 : decode cX4_readAll 86 = .ok (.getfield 21, 3) := by decide +kernel
theorem dX4_readAll_89 : decode cX4_readAll 89 = .ok (.invokevirtual 46, 3) := by decide +kernel
theorem dX4_readAll_92 : decode cX4_readAll 92 = .ok (.bipush 18, 2) := by decide +kernel
theorem dX4_readAll_94 : decode cX4_readAll 94 = .ok (.if_icmp .ne 20, 3) := by decide +kernel
theorem dX4_readAll_97 : decode cX4_readAll 97 = .ok (.aload_n 0, 1) := by decide +kernel
theorem dX4_readAll_98 : decode cX4_readAll 98 = .ok (.getfield 21, 3) := by decide +kernel
theorem dX4_readAll_101 : decode cX4_readAll 101 = .ok (.invokevirtual 56, 3) := by decide +kernel
theorem dX4_readAll_104 : decode cX4_readAll 104 = .ok (.aload_n 0, 1) := by decide +kernel
theorem dX4_readAll_105 : decode cX4_readAll 105 = .ok (.iconst 0, 1) := by decide +kernel
theorem dX4_readAll_106 : decode cX4_readAll 106 = .ok (.invokevirtual 63, 3) := by decide +kernel
theorem dX4_readAll_109 : decode cX4_readAll 109 = .ok (.ifCond .ne 5, 3) := by decide +kernel
theorem dX4_readAll_112 : decode cX4_readAll 112 = .ok (.iconst 0, 1) := by decide +kernel
theorem dX4_readAll_113 : decode cX4_readAll 113 = .ok (.ireturn, 1) := by decide +kernel
theorem dX4_readAll_114 : decode cX4_readAll 114 = .ok (.aload_n 0, 1) := by decide +kernel
theorem dX4_readAll_115 : decode cX4_readAll 115 = .ok (.getfield 18, 3) := by decide +kernel
theorem dX4_readAll_118 : decode cX4_readAll 118 = .ok (.iload_n 1, 1) := by decide +kernel
theorem dX4_readAll_119 : decode cX4_readAll 119 = .ok (.aload_n 0, 1) := by decide +kernel
theorem dX4_readAll_120 : decode cX4_readAll 120 = .ok (.getfield 27, 3) := by decide +kernel
theorem dX4_readAll_123 : decode cX4_readAll 123 = .ok (.iastore, 1) := by decide +kernel
theorem dX4_readAll_124 : decode cX4_readAll 124 = .ok (.aload_n 0, 1) := by decide +kernel
theorem dX4_readAll_125 : decode cX4_readAll 125 = .ok (.iload_n 1, 1) := by decide +kernel
theorem dX4_readAll_126 : decode cX4_readAll 126 = .ok (.iconst 1, 1) := by decide +kernel
theorem dX4_readAll_127 : decode cX4_readAll 127 = .ok (.iadd, 1) := by decide +kernel
theorem dX4_readAll_128 : decode cX4_readAll 128 = .ok (.putfield 37, 3) := by decide +kernel
theorem dX4_readAll_131 : decode cX4_readAll 131 = .ok (.aload_n 0, 1) := by decide +kernel
theorem dX4_readAll_132 : decode cX4_readAll 132 = .ok (.getfield 21, 3) := by decide +kernel
theorem dX4_readAll_135 : decode cX4_readAll 135 = .ok (.invokevirtual 46, 3) := by decide +kernel
theorem dX4_readAll_138 : decode cX4_readAll 138 = .ok (.bipush 36, 2) := by decide +kernel
theorem dX4_readAll_140 : decode cX4_readAll 140 = .ok (.if_icmp .ne 5, 3) := by decide +kernel
theorem dX4_readAll_143 : decode cX4_readAll 143 = .ok (.iconst 1, 1) := by decide +kernel
theorem dX4_readAll_144 : decode cX4_readAll 144 = .ok (.ireturn, 1) := by decide +kernel
theorem dX4_readAll_145 : decode cX4_readAll 145 = .ok (.aload_n 0, 1) := by decide +kernel
theorem dX4_readAll_146 : decode cX4_readAll 146 = .ok (.getfield 21, 3) := by decide +kernel
theorem dX4_readAll_149 : decode cX4_readAll 149 = .ok (.invokevirtual 46, 3) := by decide +kernel
theorem dX4_readAll_152 : decode cX4_readAll 152 = .ok (.bipush 32, 2) := by decide +kernel
theorem dX4_readAll_154 : decode cX4_readAll 154 = .ok (.if_icmp .eq 12, 3) := by decide +kernel
theorem dX4_readAll_157 : decode cX4_readAll 157 = .ok (.aload_n 0, 1) := by decide +kernel
theorem dX4_readAll_158 : decode cX4_readAll 158 = .ok (.getfield 21, 3) := by decide +kernel
theorem dX4_readAll_161 : decode cX4_readAll 161 = .ok (.iconst 0, 1) := by decide +kernel
theorem dX4_readAll_162 : decode cX4_readAll 162 = .ok (.invokevirtual 52, 3) := by decide +kernel
theorem dX4_readAll_165 : decode cX4_readAll 165 = .ok (.ireturn, 1) := by decide +kernel
theorem dX4_readAll_166 : decode cX4_readAll 166 = .ok (.aload_n 0, 1) := by decide +kernel
theorem dX4_readAll_167 : decode cX4_readAll 167 = .ok (.getfield 21, 3) := by decide +kernel
theorem dX4_readAll_170 : decode cX4_readAll 170 = .ok (.invokevirtual 56, 3) := by decide +kernel
theorem dX4_readAll_173 : decode cX4_readAll 173 = .ok (.iinc 1 1, 3) := by decide +kernel
theorem dX4_readAll_176 : decode cX4_readAll 176 = .ok (.goto (-159), 3) := by decide +kernel
theorem dX4_readAll_179 : decode cX4_readAll 179 = .ok (.iconst 0, 1) := by decide +kernel
theorem dX4_readAll_180 : decode cX4_readAll 180 = .ok (.ireturn, 1) := by decide +kernel
theorem dX4_emit_0 : decode cX4_emit 0 = .ok (.aload_n 0, 1) := by decide +kernel
theorem dX4_emit_1 : decode cX4_emit 1 = .ok (.getfield 27, 3) := by decide +kernel
theorem dX4_emit_4 : decode cX4_emit 4 = .ok (.sipush 400, 3) := by decide +kernel
theorem dX4_emit_7 : decode cX4_emit 7 = .ok (.if_icmp .ge 23, 3) := by decide +kernel
theorem dX4_emit_10 : decode cX4_emit 10 = .ok (.aload_n 0, 1) := by decide +kernel
theorem dX4_emit_11 : decode cX4_emit 11 = .ok (.getfield 9, 3) := by decide +kernel
theorem dX4_emit_14 : decode cX4_emit 14 = .ok (.aload_n 0, 1) := by decide +kernel
theorem dX4_emit_15 : decode cX4_emit 15 = .ok (.getfield 27, 3) := by decide +kernel
theorem dX4_emit_18 : decode cX4_emit 18 = .ok (.iload_n 1, 1) := by decide +kernel
theorem dX4_emit_19 : decode cX4_emit 19 = .ok (.iastore, 1) := by decide +kernel
theorem dX4_emit_20 : decode cX4_emit 20 = .ok (.aload_n 0, 1) := by decide +kernel
theorem dX4_emit_21 : decode cX4_emit 21 = .ok (.dup, 1) := by decide +kernel
theorem dX4_emit_22 : decode cX4_emit 22 = .ok (.getfield 27, 3) := by decide +kernel
theorem dX4_emit_25 : decode cX4_emit 25 = .ok (.iconst 1, 1) := by decide +kernel
theorem dX4_emit_26 : decode cX4_emit 26 = .ok (.iadd, 1) := by decide +kernel
theorem dX4_emit_27 : decode cX4_emit 27 = .ok (.putfield 27, 3) := by decide +kernel
theorem dX4_emit_30 : decode cX4_emit 30 = .ok (.return_, 1) := by decide +kernel
theorem dX4_readTest_0 : decode cX4_readTest 0 = .ok (.iconst 0, 1) := by decide +kernel
theorem dX4_readTest_1 : decode cX4_readTest 1 = .ok (.istore_n 2, 1) := by decide +kernel
theorem dX4_readTest_2 : decode cX4_readTest 2 = .ok (.iload_n 2, 1) := by decide +kernel
theorem dX4_readTest_3 : decode cX4_readTest 3 = .ok (.sipush 400, 3) := by decide +kernel
theorem dX4_readTest_6 : decode cX4_readTest 6 = .ok (.if_icmp .ge 50, 3) := by decide +kernel
theorem dX4_readTest_9 : decode cX4_readTest 9 = .ok (.aload_n 0, 1) := by decide +kernel
theorem dX4_readTest_10 : decode cX4_readTest 10 = .ok (.iload_n 1, 1) := by decide +kernel
theorem dX4_readTest_11 : decode cX4_readTest 11 = .ok (.invokevirtual 66, 3) := by decide +kernel
theorem dX4_readTest_14 : decode cX4_readTest 14 = .ok (.ifCond .ne 5, 3) := by decide +kernel
theorem dX4_readTest_17 : decode cX4_readTest 17 = .ok (.iconst 0, 1) := by decide +kernel
theorem dX4_readTest_18 : decode cX4_readTest 18 = .ok (.ireturn, 1) := by decide +kernel
theorem dX4_readTest_19 : decode cX4_readTest 19 = .ok (.iload_n 2, 1) := by decide +kernel
theorem dX4_readTest_20 : decode cX4_readTest 20 = .ok (.ifCond .le 9, 3) := by decide +kernel
theorem dX4_readTest_23 : decode cX4_readTest 23 = .ok (.aload_n 0, 1) := by decide +kernel
theorem dX4_readTest_24 : decode cX4_readTest 24 = .ok (.bipush 20, 2) := by decide +kernel
theorem dX4_readTest_26 : decode cX4_readTest 26 = .ok (.invokevirtual 69, 3) := by decide +kernel
theorem dX4_readTest_29 : decode cX4_readTest 29 = .ok (.aload_n 0, 1) := by decide +kernel
theorem dX4_readTest_30 : decode cX4_readTest 30 = .ok (.getfield 21, 3) := by decide +kernel
theorem dX4_readTest_33 : decode cX4_readTest 33 = .ok (.invokevirtual 46, 3) := by decide +kernel
theorem dX4_readTest_36 : decode cX4_readTest 36 = .ok (.bipush 20, 2) := by decide +kernel
theorem dX4_readTest_38 : decode cX4_readTest 38 = .ok (.if_icmp .eq 5, 3) := by decide +kernel
theorem dX4_readTest_41 : decode cX4_readTest 41 = .ok (.iconst 1, 1) := by decide +kernel
theorem dX4_readTest_42 : decode cX4_readTest 42 = .ok (.ireturn, 1) := by decide +kernel
theorem dX4_readTest_43 : decode cX4_readTest 43 = .ok (.aload_n 0, 1) := by decide +kernel
theorem dX4_readTest_44 : decode cX4_readTest 44 = .ok (.getfield 21, 3) := by decide +kernel
theorem dX4_readTest_47 : decode cX4_readTest 47 = .ok (.invokevirtual 56, 3) := by decide +kernel
theorem dX4_readTest_50 : decode cX4_readTest 50 = .ok (.iinc 2 1, 3) := by decide +kernel
theorem dX4_readTest_53 : decode cX4_readTest 53 = .ok (.goto (-51), 3) := by decide +kernel
theorem dX4_readTest_56 : decode cX4_readTest 56 = .ok (.iconst 0, 1) := by decide +kernel
theorem dX4_readTest_57 : decode cX4_readTest 57 = .ok (.ireturn, 1) := by decide +kernel
theorem dX4_readPart_0 : decode cX4_readPart 0 = .ok (.iconst 0, 1) := by decide +kernel
theorem dX4_readPart_1 : decode cX4_readPart 1 = .ok (.istore_n 2, 1) := by decide +kernel
theorem dX4_readPart_2 : decode cX4_readPart 2 = .ok (.iload_n 2, 1) := by decide +kernel
theorem dX4_readPart_3 : decode cX4_readPart 3 = .ok (.sipush 400, 3) := by decide +kernel
theorem dX4_readPart_6 : decode cX4_readPart 6 = .ok (.if_icmp .ge 50, 3) := by decide +kernel
theorem dX4_readPart_9 : decode cX4_readPart 9 = .ok (.aload_n 0, 1) := by decide +kernel
theorem dX4_readPart_10 : decode cX4_readPart 10 = .ok (.iload_n 1, 1) := by decide +kernel
theorem dX4_readPart_11 : decode cX4_readPart 11 = .ok (.invokevirtual 73, 3) := by decide +kernel
theorem dX4_readPart_14 : decode cX4_readPart 14 = .ok (.ifCond .ne 5, 3) := by decide +kernel
theorem dX4_readPart_17 : decode cX4_readPart 17 = .ok (.iconst 0, 1) := by decide +kernel
theorem dX4_readPart_18 : decode cX4_readPart 18 = .ok (.ireturn, 1) := by decide +kernel
theorem dX4_readPart_19 : decode cX4_readPart 19 = .ok (.iload_n 2, 1) := by decide +kernel
theorem dX4_readPart_20 : decode cX4_readPart 20 = .ok (.ifCond .le 9, 3) := by decide +kernel
theorem dX4_readPart_23 : decode cX4_readPart 23 = .ok (.aload_n 0, 1) := by decide +kernel
theorem dX4_readPart_24 : decode cX4_readPart 24 = .ok (.bipush 19, 2) := by decide +kernel
theorem dX4_readPart_26 : decode cX4_readPart 26 = .ok (.invokevirtual 69, 3) := by decide +kernel
theorem dX4_readPart_29 : decode cX4_readPart 29 = .ok (.aload_n 0, 1) := by decide +kernel
theorem dX4_readPart_30 : decode cX4_readPart 30 = .ok (.getfield 21, 3) := by decide +kernel
theorem dX4_readPart_33 : decode cX4_readPart 33 = .ok (.invokevirtual 46, 3) := by decide +kernel
theorem dX4_readPart_36 : decode cX4_readPart 36 = .ok (.bipush 19, 2) := by decide +kernel
theorem dX4_readPart_38 : decode cX4_readPart 38 = .ok (.if_icmp .eq 5, 3) := by decide +kernel
theorem dX4_readPart_41 : decode cX4_readPart 41 = .ok (.iconst 1, 1) := by decide +kernel
theorem dX4_readPart_42 : decode cX4_readPart 42 = .ok (.ireturn, 1) := by decide +kernel
theorem dX4_readPart_43 : decode cX4_readPart 43 = .ok (.aload_n 0, 1) := by decide +kernel
theorem dX4_readPart_44 : decode cX4_readPart 44 = .ok (.getfield 21, 3) := by decide +kernel
theorem dX4_readPart_47 : decode cX4_readPart 47 = .ok (.invokevirtual 56, 3) := by decide +kernel
theorem dX4_readPart_50 : decode cX4_readPart 50 = .ok (.iinc 2 1, 3) := by decide +kernel
theorem dX4_readPart_53 : decode cX4_readPart 53 = .ok (.goto (-51), 3) := by decide +kernel
theorem dX4_readPart_56 : decode cX4_readPart 56 = .ok (.iconst 0, 1) := by decide +kernel
theorem dX4_readPart_57 : decode cX4_readPart 57 = .ok (.ireturn, 1) := by decide +kernel
theorem dX4_readFact_0 : decode cX4_readFact 0 = .ok (.aload_n 0, 1) := by decide +kernel
theorem dX4_readFact_1 : decode cX4_readFact 1 = .ok (.getfield 21, 3) := by decide +kernel
theorem dX4_readFact_4 : decode cX4_readFact 4 = .ok (.invokevirtual 46, 3) := by decide +kernel
theorem dX4_readFact_7 : decode cX4_readFact 7 = .ok (.istore_n 2, 1) := by decide +kernel
theorem dX4_readFact_8 : decode cX4_readFact 8 = .ok (.iload_n 2, 1) := by decide +kernel
theorem dX4_readFact_9 : decode cX4_readFact 9 = .ok (.bipush 21, 2) := by decide +kernel
theorem dX4_readFact_11 : decode cX4_readFact 11 = .ok (.if_icmp .eq 9, 3) := by decide +kernel
theorem dX4_readFact_14 : decode cX4_readFact 14 = .ok (.iload_n 2, 1) := by decide +kernel
theorem dX4_readFact_15 : decode cX4_readFact 15 = .ok (.bipush 30, 2) := by decide +kernel
theorem dX4_readFact_17 : decode cX4_readFact 17 = .ok (.if_icmp .ne 49, 3) := by decide +kernel
theorem dX4_readFact_20 : decode cX4_readFact 20 = .ok (.iload_n 1, 1) := by decide +kernel
theorem dX4_readFact_21 : decode cX4_readFact 21 = .ok (.bipush 10, 2) := by decide +kernel
theorem dX4_readFact_23 : decode cX4_readFact 23 = .ok (.if_icmp .lt 12, 3) := by decide +kernel
theorem dX4_readFact_26 : decode cX4_readFact 26 = .ok (.aload_n 0, 1) := by decide +kernel
theorem dX4_readFact_27 : decode cX4_readFact 27 = .ok (.getfield 21, 3) := by decide +kernel
theorem dX4_readFact_30 : decode cX4_readFact 30 = .ok (.iconst 2, 1) := by decide +kernel
theorem dX4_readFact_31 : decode cX4_readFact 31 = .ok (.invokevirtual 52, 3) := by decide +kernel
theorem dX4_readFact_34 : decode cX4_readFact 34 = .ok (.ireturn, 1) := by decide +kernel
theorem dX4_readFact_35 : decode cX4_readFact 35 = .ok (.aload_n 0, 1) := by decide +kernel
theorem dX4_readFact_36 : decode cX4_readFact 36 = .ok (.getfield 21, 3) := by decide +kernel
theorem dX4_readFact_39 : decode cX4_readFact 39 = .ok (.invokevirtual 56, 3) := by decide +kernel
theorem dX4_readFact_42 : decode cX4_readFact 42 = .ok (.iload_n 2, 1) := by decide +kernel
theorem dX4_readFact_43 : decode cX4_readFact 43 = .ok (.bipush 21, 2) := by decide +kernel
theorem dX4_readFact_45 : decode cX4_readFact 45 = .ok (.if_icmp .ne 13, 3) := by decide +kernel
theorem dX4_readFact_48 : decode cX4_readFact 48 = .ok (.aload_n 0, 1) := by decide +kernel
theorem dX4_readFact_49 : decode cX4_readFact 49 = .ok (.iload_n 1, 1) := by decide +kernel
theorem dX4_readFact_50 : decode cX4_readFact 50 = .ok (.iconst 1, 1) := by decide +kernel
theorem dX4_readFact_51 : decode cX4_readFact 51 = .ok (.iadd, 1) := by decide +kernel
theorem dX4_readFact_52 : decode cX4_readFact 52 = .ok (.invokevirtual 76, 3) := by decide +kernel
theorem dX4_readFact_55 : decode cX4_readFact 55 = .ok (.goto 10, 3) := by decide +kernel
theorem dX4_readFact_58 : decode cX4_readFact 58 = .ok (.aload_n 0, 1) := by decide +kernel
theorem dX4_readFact_59 : decode cX4_readFact 59 = .ok (.iload_n 1, 1) := by decide +kernel
theorem dX4_readFact_60 : decode cX4_readFact 60 = .ok (.iconst 1, 1) := by decide +kernel
theorem dX4_readFact_61 : decode cX4_readFact 61 = .ok (.iadd, 1) := by decide +kernel
theorem dX4_readFact_62 : decode cX4_readFact 62 = .ok (.invokevirtual 79, 3) := by decide +kernel
theorem dX4_readFact_65 : decode cX4_readFact 65 = .ok (.ireturn, 1) := by decide +kernel
theorem dX4_readFact_66 : decode cX4_readFact 66 = .ok (.aload_n 0, 1) := by decide +kernel
theorem dX4_readFact_67 : decode cX4_readFact 67 = .ok (.invokevirtual 59, 3) := by decide +kernel
theorem dX4_readFact_70 : decode cX4_readFact 70 = .ok (.ifCond .ne 5, 3) := by decide +kernel
theorem dX4_readFact_73 : decode cX4_readFact 73 = .ok (.iconst 0, 1) := by decide +kernel
theorem dX4_readFact_74 : decode cX4_readFact 74 = .ok (.ireturn, 1) := by decide +kernel
theorem dX4_readFact_75 : decode cX4_readFact 75 = .ok (.aload_n 0, 1) := by decide +kernel
theorem dX4_readFact_76 : decode cX4_readFact 76 = .ok (.getfield 21, 3) := by decide +kernel
theorem dX4_readFact_79 : decode cX4_readFact 79 = .ok (.invokevirtual 46, 3) := by decide +kernel
theorem dX4_readFact_82 : decode cX4_readFact 82 = .ok (.istore_n 3, 1) := by decide +kernel
theorem dX4_readFact_83 : decode cX4_readFact 83 = .ok (.iload_n 3, 1) := by decide +kernel
theorem dX4_readFact_84 : decode cX4_readFact 84 = .ok (.invokestatic 82, 3) := by decide +kernel
theorem dX4_readFact_87 : decode cX4_readFact 87 = .ok (.ifCond .ne 12, 3) := by decide +kernel
theorem dX4_readFact_90 : decode cX4_readFact 90 = .ok (.aload_n 0, 1) := by decide +kernel
theorem dX4_readFact_91 : decode cX4_readFact 91 = .ok (.getfield 21, 3) := by decide +kernel
theorem dX4_readFact_94 : decode cX4_readFact 94 = .ok (.iconst 0, 1) := by decide +kernel
theorem dX4_readFact_95 : decode cX4_readFact 95 = .ok (.invokevirtual 52, 3) := by decide +kernel
theorem dX4_readFact_98 : decode cX4_readFact 98 = .ok (.ireturn, 1) := by decide +kernel
theorem dX4_readFact_99 : decode cX4_readFact 99 = .ok (.aload_n 0, 1) := by decide +kernel
theorem dX4_readFact_100 : decode cX4_readFact 100 = .ok (.getfield 43, 3) := by decide +kernel
theorem dX4_readFact_103 : decode cX4_readFact 103 = .ok (.bipush 60, 2) := by decide +kernel
theorem dX4_readFact_105 : decode cX4_readFact 105 = .ok (.if_icmp .lt 12, 3) := by decide +kernel
theorem dX4_readFact_108 : decode cX4_readFact 108 = .ok (.aload_n 0, 1) := by decide +kernel
theorem dX4_readFact_109 : decode cX4_readFact 109 = .ok (.getfield 21, 3) := by decide +kernel
theorem dX4_readFact_112 : decode cX4_readFact 112 = .ok (.iconst 3, 1) := by decide +kernel
theorem dX4_readFact_113 : decode cX4_readFact 113 = .ok (.invokevirtual 52, 3) := by decide +kernel
theorem dX4_readFact_116 : decode cX4_readFact 116 = .ok (.ireturn, 1) := by decide +kernel
theorem dX4_readFact_117 : decode cX4_readFact 117 = .ok (.aload_n 0, 1) := by decide +kernel
theorem dX4_readFact_118 : decode cX4_readFact 118 = .ok (.dup, 1) := by decide +kernel
theorem dX4_readFact_119 : decode cX4_readFact 119 = .ok (.getfield 43, 3) := by decide +kernel
theorem dX4_readFact_122 : decode cX4_readFact 122 = .ok (.iconst 1, 1) := by decide +kernel
theorem dX4_readFact_123 : decode cX4_readFact 123 = .ok (.iadd, 1) := by decide +kernel
theorem dX4_readFact_124 : decode cX4_readFact 124 = .ok (.putfield 43, 3) := by decide +kernel
theorem dX4_readFact_127 : decode cX4_readFact 127 = .ok (.aload_n 0, 1) := by decide +kernel
theorem dX4_readFact_128 : decode cX4_readFact 128 = .ok (.getfield 21, 3) := by decide +kernel
theorem dX4_readFact_131 : decode cX4_readFact 131 = .ok (.invokevirtual 56, 3) := by decide +kernel
theorem dX4_readFact_134 : decode cX4_readFact 134 = .ok (.aload_n 0, 1) := by decide +kernel
theorem dX4_readFact_135 : decode cX4_readFact 135 = .ok (.invokevirtual 59, 3) := by decide +kernel
theorem dX4_readFact_138 : decode cX4_readFact 138 = .ok (.istore 4, 2) := by decide +kernel
theorem dX4_readFact_140 : decode cX4_readFact 140 = .ok (.aload_n 0, 1) := by decide +kernel
theorem dX4_readFact_141 : decode cX4_readFact 141 = .ok (.iload_n 3, 1) := by decide +kernel
theorem dX4_readFact_142 : decode cX4_readFact 142 = .ok (.invokevirtual 69, 3) := by decide +kernel
theorem dX4_readFact_145 : decode cX4_readFact 145 = .ok (.iload 4, 2) := by decide +kernel
theorem dX4_readFact_147 : decode cX4_readFact 147 = .ok (.ireturn, 1) := by decide +kernel
theorem dX4_readDenied_0 : decode cX4_readDenied 0 = .ok (.aload_n 0, 1) := by decide +kernel
theorem dX4_readDenied_1 : decode cX4_readDenied 1 = .ok (.iload_n 1, 1) := by decide +kernel
theorem dX4_readDenied_2 : decode cX4_readDenied 2 = .ok (.invokevirtual 73, 3) := by decide +kernel
theorem dX4_readDenied_5 : decode cX4_readDenied 5 = .ok (.istore_n 2, 1) := by decide +kernel
theorem dX4_readDenied_6 : decode cX4_readDenied 6 = .ok (.aload_n 0, 1) := by decide +kernel
theorem dX4_readDenied_7 : decode cX4_readDenied 7 = .ok (.bipush 21, 2) := by decide +kernel
theorem dX4_readDenied_9 : decode cX4_readDenied 9 = .ok (.invokevirtual 69, 3) := by decide +kernel
theorem dX4_readDenied_12 : decode cX4_readDenied 12 = .ok (.iload_n 2, 1) := by decide +kernel
theorem dX4_readDenied_13 : decode cX4_readDenied 13 = .ok (.ireturn, 1) := by decide +kernel
theorem dX4_readBracketed_0 : decode cX4_readBracketed 0 = .ok (.aload_n 0, 1) := by decide +kernel
theorem dX4_readBracketed_1 : decode cX4_readBracketed 1 = .ok (.iload_n 1, 1) := by decide +kernel
theorem dX4_readBracketed_2 : decode cX4_readBracketed 2 = .ok (.invokevirtual 63, 3) := by decide +kernel
theorem dX4_readBracketed_5 : decode cX4_readBracketed 5 = .ok (.ifCond .ne 5, 3) := by decide +kernel
theorem dX4_readBracketed_8 : decode cX4_readBracketed 8 = .ok (.iconst 0, 1) := by decide +kernel
theorem dX4_readBracketed_9 : decode cX4_readBracketed 9 = .ok (.ireturn, 1) := by decide +kernel
theorem dX4_readBracketed_10 : decode cX4_readBracketed 10 = .ok (.aload_n 0, 1) := by decide +kernel
theorem dX4_readBracketed_11 : decode cX4_readBracketed 11 = .ok (.getfield 21, 3) := by decide +kernel
theorem dX4_readBracketed_14 : decode cX4_readBracketed 14 = .ok (.invokevirtual 46, 3) := by decide +kernel
theorem dX4_readBracketed_17 : decode cX4_readBracketed 17 = .ok (.bipush 31, 2) := by decide +kernel
theorem dX4_readBracketed_19 : decode cX4_readBracketed 19 = .ok (.if_icmp .eq 12, 3) := by decide +kernel
theorem dX4_readBracketed_22 : decode cX4_readBracketed 22 = .ok (.aload_n 0, 1) := by decide +kernel
theorem dX4_readBracketed_23 : decode cX4_readBracketed 23 = .ok (.getfield 21, 3) := by decide +kernel
theorem dX4_readBracketed_26 : decode cX4_readBracketed 26 = .ok (.iconst 0, 1) := by decide +kernel
theorem dX4_readBracketed_27 : decode cX4_readBracketed 27 = .ok (.invokevirtual 52, 3) := by decide +kernel
theorem dX4_readBracketed_30 : decode cX4_readBracketed 30 = .ok (.ireturn, 1) := by decide +kernel
theorem dX4_readBracketed_31 : decode cX4_readBracketed 31 = .ok (.aload_n 0, 1) := by decide +kernel
theorem dX4_readBracketed_32 : decode cX4_readBracketed 32 = .ok (.getfield 21, 3) := by decide +kernel
theorem dX4_readBracketed_35 : decode cX4_readBracketed 35 = .ok (.invokevirtual 56, 3) := by decide +kernel
theorem dX4_readBracketed_38 : decode cX4_readBracketed 38 = .ok (.iconst 1, 1) := by decide +kernel
theorem dX4_readBracketed_39 : decode cX4_readBracketed 39 = .ok (.ireturn, 1) := by decide +kernel
theorem dX4_compares_0 : decode cX4_compares 0 = .ok (.iload_n 0, 1) := by decide +kernel
theorem dX4_compares_1 : decode cX4_compares 1 = .ok (.bipush 27, 2) := by decide +kernel
theorem dX4_compares_3 : decode cX4_compares 3 = .ok (.if_icmp .eq 27, 3) := by decide +kernel
theorem dX4_compares_6 : decode cX4_compares 6 = .ok (.iload_n 0, 1) := by decide +kernel
theorem dX4_compares_7 : decode cX4_compares 7 = .ok (.bipush 28, 2) := by decide +kernel
theorem dX4_compares_9 : decode cX4_compares 9 = .ok (.if_icmp .eq 21, 3) := by decide +kernel
theorem dX4_compares_12 : decode cX4_compares 12 = .ok (.iload_n 0, 1) := by decide +kernel
theorem dX4_compares_13 : decode cX4_compares 13 = .ok (.bipush 29, 2) := by decide +kernel
theorem dX4_compares_15 : decode cX4_compares 15 = .ok (.if_icmp .eq 15, 3) := by decide +kernel
theorem dX4_compares_18 : decode cX4_compares 18 = .ok (.iload_n 0, 1) := by decide +kernel
theorem dX4_compares_19 : decode cX4_compares 19 = .ok (.bipush 33, 2) := by decide +kernel
theorem dX4_compares_21 : decode cX4_compares 21 = .ok (.if_icmp .eq 9, 3) := by decide +kernel
theorem dX4_compares_24 : decode cX4_compares 24 = .ok (.iload_n 0, 1) := by decide +kernel
theorem dX4_compares_25 : decode cX4_compares 25 = .ok (.bipush 34, 2) := by decide +kernel
theorem dX4_compares_27 : decode cX4_compares 27 = .ok (.if_icmp .ne 7, 3) := by decide +kernel
theorem dX4_compares_30 : decode cX4_compares 30 = .ok (.iconst 1, 1) := by decide +kernel
theorem dX4_compares_31 : decode cX4_compares 31 = .ok (.goto 4, 3) := by decide +kernel
theorem dX4_compares_34 : decode cX4_compares 34 = .ok (.iconst 0, 1) := by decide +kernel
theorem dX4_compares_35 : decode cX4_compares 35 = .ok (.ireturn, 1) := by decide +kernel
theorem dX4_adds_0 : decode cX4_adds 0 = .ok (.iload_n 0, 1) := by decide +kernel
theorem dX4_adds_1 : decode cX4_adds 1 = .ok (.bipush 22, 2) := by decide +kernel
theorem dX4_adds_3 : decode cX4_adds 3 = .ok (.if_icmp .eq 9, 3) := by decide +kernel
theorem dX4_adds_6 : decode cX4_adds 6 = .ok (.iload_n 0, 1) := by decide +kernel
theorem dX4_adds_7 : decode cX4_adds 7 = .ok (.bipush 23, 2) := by decide +kernel
theorem dX4_adds_9 : decode cX4_adds 9 = .ok (.if_icmp .ne 7, 3) := by decide +kernel
theorem dX4_adds_12 : decode cX4_adds 12 = .ok (.iconst 1, 1) := by decide +kernel
theorem dX4_adds_13 : decode cX4_adds 13 = .ok (.goto 4, 3) := by decide +kernel
theorem dX4_adds_16 : decode cX4_adds 16 = .ok (.iconst 0, 1) := by decide +kernel
theorem dX4_adds_17 : decode cX4_adds 17 = .ok (.ireturn, 1) := by decide +kernel
theorem dX4_multiplies_0 : decode cX4_multiplies 0 = .ok (.iload_n 0, 1) := by decide +kernel
theorem dX4_multiplies_1 : decode cX4_multiplies 1 = .ok (.bipush 24, 2) := by decide +kernel
theorem dX4_multiplies_3 : decode cX4_multiplies 3 = .ok (.if_icmp .eq 15, 3) := by decide +kernel
theorem dX4_multiplies_6 : decode cX4_multiplies 6 = .ok (.iload_n 0, 1) := by decide +kernel
theorem dX4_multiplies_7 : decode cX4_multiplies 7 = .ok (.bipush 25, 2) := by decide +kernel
theorem dX4_multiplies_9 : decode cX4_multiplies 9 = .ok (.if_icmp .eq 9, 3) := by decide +kernel
theorem dX4_multiplies_12 : decode cX4_multiplies 12 = .ok (.iload_n 0, 1) := by decide +kernel
theorem dX4_multiplies_13 : decode cX4_multiplies 13 = .ok (.bipush 26, 2) := by decide +kernel
theorem dX4_multiplies_15 : decode cX4_multiplies 15 = .ok (.if_icmp .ne 7, 3) := by decide +kernel
theorem dX4_multiplies_18 : decode cX4_multiplies 18 = .ok (.iconst 1, 1) := by decide +kernel
theorem dX4_multiplies_19 : decode cX4_multiplies 19 = .ok (.goto 4, 3) := by decide +kernel
theorem dX4_multiplies_22 : decode cX4_multiplies 22 = .ok (.iconst 0, 1) := by decide +kernel
theorem dX4_multiplies_23 : decode cX4_multiplies 23 = .ok (.ireturn, 1) := by decide +kernel
theorem dX4_readSum_0 : decode cX4_readSum 0 = .ok (.iconst (-1), 1) := by decide +kernel
theorem dX4_readSum_1 : decode cX4_readSum 1 = .ok (.istore_n 1, 1) := by decide +kernel
theorem dX4_readSum_2 : decode cX4_readSum 2 = .ok (.iconst (-1), 1) := by decide +kernel
theorem dX4_readSum_3 : decode cX4_readSum 3 = .ok (.istore_n 2, 1) := by decide +kernel
theorem dX4_readSum_4 : decode cX4_readSum 4 = .ok (.iconst 0, 1) := by decide +kernel
theorem dX4_readSum_5 : decode cX4_readSum 5 = .ok (.istore_n 3, 1) := by decide +kernel
theorem dX4_readSum_6 : decode cX4_readSum 6 = .ok (.iload_n 3, 1) := by decide +kernel
theorem dX4_readSum_7 : decode cX4_readSum 7 = .ok (.sipush 400, 3) := by decide +kernel
theorem dX4_readSum_10 : decode cX4_readSum 10 = .ok (.if_icmp .ge 73, 3) := by decide +kernel
theorem dX4_readSum_13 : decode cX4_readSum 13 = .ok (.aload_n 0, 1) := by decide +kernel
theorem dX4_readSum_14 : decode cX4_readSum 14 = .ok (.invokevirtual 85, 3) := by decide +kernel
theorem dX4_readSum_17 : decode cX4_readSum 17 = .ok (.ifCond .ne 5, 3) := by decide +kernel
theorem dX4_readSum_20 : decode cX4_readSum 20 = .ok (.iconst 0, 1) := by decide +kernel
theorem dX4_readSum_21 : decode cX4_readSum 21 = .ok (.ireturn, 1) := by decide +kernel
theorem dX4_readSum_22 : decode cX4_readSum 22 = .ok (.iload_n 2, 1) := by decide +kernel
theorem dX4_readSum_23 : decode cX4_readSum 23 = .ok (.invokestatic 88, 3) := by decide +kernel
theorem dX4_readSum_26 : decode cX4_readSum 26 = .ok (.ifCond .eq 8, 3) := by decide +kernel
theorem dX4_readSum_29 : decode cX4_readSum 29 = .ok (.aload_n 0, 1) := by decide +kernel
theorem dX4_readSum_30 : decode cX4_readSum 30 = .ok (.iload_n 2, 1) := by decide +kernel
theorem dX4_readSum_31 : decode cX4_readSum 31 = .ok (.invokevirtual 69, 3) := by decide +kernel
theorem dX4_readSum_34 : decode cX4_readSum 34 = .ok (.aload_n 0, 1) := by decide +kernel
theorem dX4_readSum_35 : decode cX4_readSum 35 = .ok (.getfield 21, 3) := by decide +kernel
theorem dX4_readSum_38 : decode cX4_readSum 38 = .ok (.invokevirtual 46, 3) := by decide +kernel
theorem dX4_readSum_41 : decode cX4_readSum 41 = .ok (.istore_n 2, 1) := by decide +kernel
theorem dX4_readSum_42 : decode cX4_readSum 42 = .ok (.iload_n 2, 1) := by decide +kernel
theorem dX4_readSum_43 : decode cX4_readSum 43 = .ok (.invokestatic 88, 3) := by decide +kernel
theorem dX4_readSum_46 : decode cX4_readSum 46 = .ok (.ifCond .ne 24, 3) := by decide +kernel
theorem dX4_readSum_49 : decode cX4_readSum 49 = .ok (.iload_n 1, 1) := by decide +kernel
theorem dX4_readSum_50 : decode cX4_readSum 50 = .ok (.iconst (-1), 1) := by decide +kernel
theorem dX4_readSum_51 : decode cX4_readSum 51 = .ok (.if_icmp .eq 8, 3) := by decide +kernel
theorem dX4_readSum_54 : decode cX4_readSum 54 = .ok (.aload_n 0, 1) := by decide +kernel
theorem dX4_readSum_55 : decode cX4_readSum 55 = .ok (.iload_n 1, 1) := by decide +kernel
theorem dX4_readSum_56 : decode cX4_readSum 56 = .ok (.invokevirtual 69, 3) := by decide +kernel
theorem dX4_readSum_59 : decode cX4_readSum 59 = .ok (.iload_n 2, 1) := by decide +kernel
theorem dX4_readSum_60 : decode cX4_readSum 60 = .ok (.invokestatic 91, 3) := by decide +kernel
theorem dX4_readSum_63 : decode cX4_readSum 63 = .ok (.ifCond .ne 5, 3) := by decide +kernel
theorem dX4_readSum_66 : decode cX4_readSum 66 = .ok (.iconst 1, 1) := by decide +kernel
theorem dX4_readSum_67 : decode cX4_readSum 67 = .ok (.ireturn, 1) := by decide +kernel
theorem dX4_readSum_68 : decode cX4_readSum 68 = .ok (.iload_n 2, 1) := by decide +kernel
theorem dX4_readSum_69 : decode cX4_readSum 69 = .ok (.istore_n 1, 1) := by decide +kernel
theorem dX4_readSum_70 : decode cX4_readSum 70 = .ok (.aload_n 0, 1) := by decide +kernel
theorem dX4_readSum_71 : decode cX4_readSum 71 = .ok (.getfield 21, 3) := by decide +kernel
theorem dX4_readSum_74 : decode cX4_readSum 74 = .ok (.invokevirtual 56, 3) := by decide +kernel
theorem dX4_readSum_77 : decode cX4_readSum 77 = .ok (.iinc 3 1, 3) := by decide +kernel
theorem dX4_readSum_80 : decode cX4_readSum 80 = .ok (.goto (-74), 3) := by decide +kernel
theorem dX4_readSum_83 : decode cX4_readSum 83 = .ok (.iconst 0, 1) := by decide +kernel
theorem dX4_readSum_84 : decode cX4_readSum 84 = .ok (.ireturn, 1) := by decide +kernel
theorem dX4_readValue_0 : decode cX4_readValue 0 = .ok (.aload_n 0, 1) := by decide +kernel
theorem dX4_readValue_1 : decode cX4_readValue 1 = .ok (.getfield 21, 3) := by decide +kernel
theorem dX4_readValue_4 : decode cX4_readValue 4 = .ok (.invokevirtual 46, 3) := by decide +kernel
theorem dX4_readValue_7 : decode cX4_readValue 7 = .ok (.istore_n 1, 1) := by decide +kernel
theorem dX4_readValue_8 : decode cX4_readValue 8 = .ok (.aload_n 0, 1) := by decide +kernel
theorem dX4_readValue_9 : decode cX4_readValue 9 = .ok (.getfield 21, 3) := by decide +kernel
theorem dX4_readValue_12 : decode cX4_readValue 12 = .ok (.invokevirtual 94, 3) := by decide +kernel
theorem dX4_readValue_15 : decode cX4_readValue 15 = .ok (.istore_n 2, 1) := by decide +kernel
theorem dX4_readValue_16 : decode cX4_readValue 16 = .ok (.iload_n 1, 1) := by decide +kernel
theorem dX4_readValue_17 : decode cX4_readValue 17 = .ok (.bipush 35, 2) := by decide +kernel
theorem dX4_readValue_19 : decode cX4_readValue 19 = .ok (.if_icmp .eq 18, 3) := by decide +kernel
theorem dX4_readValue_22 : decode cX4_readValue 22 = .ok (.iload_n 1, 1) := by decide +kernel
theorem dX4_readValue_23 : decode cX4_readValue 23 = .ok (.bipush 13, 2) := by decide +kernel
theorem dX4_readValue_25 : decode cX4_readValue 25 = .ok (.if_icmp .lt 12, 3) := by decide +kernel
theorem dX4_readValue_28 : decode cX4_readValue 28 = .ok (.aload_n 0, 1) := by decide +kernel
theorem dX4_readValue_29 : decode cX4_readValue 29 = .ok (.getfield 21, 3) := by decide +kernel
theorem dX4_readValue_32 : decode cX4_readValue 32 = .ok (.iconst 0, 1) := by decide +kernel
theorem dX4_readValue_33 : decode cX4_readValue 33 = .ok (.invokevirtual 52, 3) := by decide +kernel
theorem dX4_readValue_36 : decode cX4_readValue 36 = .ok (.ireturn, 1) := by decide +kernel
theorem dX4_readValue_37 : decode cX4_readValue 37 = .ok (.iload_n 1, 1) := by decide +kernel
theorem dX4_readValue_38 : decode cX4_readValue 38 = .ok (.bipush 35, 2) := by decide +kernel
theorem dX4_readValue_40 : decode cX4_readValue 40 = .ok (.if_icmp .ne 17, 3) := by decide +kernel
theorem dX4_readValue_43 : decode cX4_readValue 43 = .ok (.iload_n 2, 1) := by decide +kernel
theorem dX4_readValue_44 : decode cX4_readValue 44 = .ok (.iconst (-1), 1) := by decide +kernel
theorem dX4_readValue_45 : decode cX4_readValue 45 = .ok (.if_icmp .ne 12, 3) := by decide +kernel
theorem dX4_readValue_48 : decode cX4_readValue 48 = .ok (.aload_n 0, 1) := by decide +kernel
theorem dX4_readValue_49 : decode cX4_readValue 49 = .ok (.getfield 21, 3) := by decide +kernel
theorem dX4_readValue_52 : decode cX4_readValue 52 = .ok (.iconst 1, 1) := by decide +kernel
theorem dX4_readValue_53 : decode cX4_readValue 53 = .ok (.invokevirtual 52, 3) := by decide +kernel
theorem dX4_readValue_56 : decode cX4_readValue 56 = .ok (.ireturn, 1) := by decide +kernel
theorem dX4_readValue_57 : decode cX4_readValue 57 = .ok (.aload_n 0, 1) := by decide +kernel
theorem dX4_readValue_58 : decode cX4_readValue 58 = .ok (.getfield 43, 3) := by decide +kernel
theorem dX4_readValue_61 : decode cX4_readValue 61 = .ok (.bipush 60, 2) := by decide +kernel
theorem dX4_readValue_63 : decode cX4_readValue 63 = .ok (.if_icmp .lt 12, 3) := by decide +kernel
theorem dX4_readValue_66 : decode cX4_readValue 66 = .ok (.aload_n 0, 1) := by decide +kernel
theorem dX4_readValue_67 : decode cX4_readValue 67 = .ok (.getfield 21, 3) := by decide +kernel
theorem dX4_readValue_70 : decode cX4_readValue 70 = .ok (.iconst 3, 1) := by decide +kernel
theorem dX4_readValue_71 : decode cX4_readValue 71 = .ok (.invokevirtual 52, 3) := by decide +kernel
theorem dX4_readValue_74 : decode cX4_readValue 74 = .ok (.ireturn, 1) := by decide +kernel
theorem dX4_readValue_75 : decode cX4_readValue 75 = .ok (.aload_n 0, 1) := by decide +kernel
theorem dX4_readValue_76 : decode cX4_readValue 76 = .ok (.dup, 1) := by decide +kernel
theorem dX4_readValue_77 : decode cX4_readValue 77 = .ok (.getfield 43, 3) := by decide +kernel
theorem dX4_readValue_80 : decode cX4_readValue 80 = .ok (.iconst 1, 1) := by decide +kernel
theorem dX4_readValue_81 : decode cX4_readValue 81 = .ok (.iadd, 1) := by decide +kernel
theorem dX4_readValue_82 : decode cX4_readValue 82 = .ok (.putfield 43, 3) := by decide +kernel
theorem dX4_readValue_85 : decode cX4_readValue 85 = .ok (.aload_n 0, 1) := by decide +kernel
theorem dX4_readValue_86 : decode cX4_readValue 86 = .ok (.iload_n 1, 1) := by decide +kernel
theorem dX4_readValue_87 : decode cX4_readValue 87 = .ok (.bipush 35, 2) := by decide +kernel
theorem dX4_readValue_89 : decode cX4_readValue 89 = .ok (.if_icmp .ne 10, 3) := by decide +kernel
theorem dX4_readValue_92 : decode cX4_readValue 92 = .ok (.bipush 64, 2) := by decide +kernel
theorem dX4_readValue_94 : decode cX4_readValue 94 = .ok (.iload_n 2, 1) := by decide +kernel
theorem dX4_readValue_95 : decode cX4_readValue 95 = .ok (.iadd, 1) := by decide +kernel
theorem dX4_readValue_96 : decode cX4_readValue 96 = .ok (.goto 4, 3) := by decide +kernel
theorem dX4_readValue_99 : decode cX4_readValue 99 = .ok (.iload_n 1, 1) := by decide +kernel
theorem dX4_readValue_100 : decode cX4_readValue 100 = .ok (.invokevirtual 69, 3) := by decide +kernel
theorem dX4_readValue_103 : decode cX4_readValue 103 = .ok (.aload_n 0, 1) := by decide +kernel
theorem dX4_readValue_104 : decode cX4_readValue 104 = .ok (.getfield 21, 3) := by decide +kernel
theorem dX4_readValue_107 : decode cX4_readValue 107 = .ok (.invokevirtual 56, 3) := by decide +kernel
theorem dX4_readValue_110 : decode cX4_readValue 110 = .ok (.iconst 1, 1) := by decide +kernel
theorem dX4_readValue_111 : decode cX4_readValue 111 = .ok (.ireturn, 1) := by decide +kernel
theorem dX5_init_0 : decode cX5_init 0 = .ok (.aload_n 0, 1) := by decide +kernel
theorem dX5_init_1 : decode cX5_init 1 = .ok (.invokespecial 3, 3) := by decide +kernel
theorem dX5_init_4 : decode cX5_init 4 = .ok (.aload_n 0, 1) := by decide +kernel
theorem dX5_init_5 : decode cX5_init 5 = .ok (.bipush 6, 2) := by decide +kernel
theorem dX5_init_7 : decode cX5_init 7 = .ok (.bipush 6, 2) := by decide +kernel
theorem dX5_init_9 : decode cX5_init 9 = .ok (.multianewarray 9 2, 4) := by decide +kernel
theorem dX5_init_13 : decode cX5_init 13 = .ok (.putfield 11, 3) := by decide +kernel
theorem dX5_init_16 : decode cX5_init 16 = .ok (.aload_n 0, 1) := by decide +kernel
theorem dX5_init_17 : decode cX5_init 17 = .ok (.bipush 6, 2) := by decide +kernel
theorem dX5_init_19 : decode cX5_init 19 = .ok (.newarray .int, 2) := by decide +kernel
theorem dX5_init_21 : decode cX5_init 21 = .ok (.putfield 16, 3) := by decide +kernel
theorem dX5_init_24 : decode cX5_init 24 = .ok (.aload_n 0, 1) := by decide +kernel
theorem dX5_init_25 : decode cX5_init 25 = .ok (.bipush 6, 2) := by decide +kernel
theorem dX5_init_27 : decode cX5_init 27 = .ok (.newarray .int, 2) := by decide +kernel
theorem dX5_init_29 : decode cX5_init 29 = .ok (.putfield 20, 3) := by decide +kernel
theorem dX5_init_32 : decode cX5_init 32 = .ok (.aload_n 0, 1) := by decide +kernel
theorem dX5_init_33 : decode cX5_init 33 = .ok (.bipush 6, 2) := by decide +kernel
theorem dX5_init_35 : decode cX5_init 35 = .ok (.newarray .int, 2) := by decide +kernel
theorem dX5_init_37 : decode cX5_init 37 = .ok (.putfield 23, 3) := by decide +kernel
theorem dX5_init_40 : decode cX5_init 40 = .ok (.return_, 1) := by decide +kernel
theorem dX5_find_0 : decode cX5_find 0 = .ok (.aload_n 0, 1) := by decide +kernel
theorem dX5_find_1 : decode cX5_find 1 = .ok (.iload_n 3, 1) := by decide +kernel
theorem dX5_find_2 : decode cX5_find 2 = .ok (.putfield 26, 3) := by decide +kernel
theorem dX5_find_5 : decode cX5_find 5 = .ok (.aload_n 0, 1) := by decide +kernel
theorem dX5_find_6 : decode cX5_find 6 = .ok (.aload_n 1, 1) := by decide +kernel
theorem dX5_find_7 : decode cX5_find 7 = .ok (.getfield 30, 3) := by decide +kernel
theorem dX5_find_10 : decode cX5_find 10 = .ok (.iload 4, 2) := by decide +kernel
theorem dX5_find_12 : decode cX5_find 12 = .ok (.iaload, 1) := by decide +kernel
theorem dX5_find_13 : decode cX5_find 13 = .ok (.putfield 35, 3) := by decide +kernel
theorem dX5_find_16 : decode cX5_find 16 = .ok (.aload_n 0, 1) := by decide +kernel
theorem dX5_find_17 : decode cX5_find 17 = .ok (.aload_n 1, 1) := by decide +kernel
theorem dX5_find_18 : decode cX5_find 18 = .ok (.getfield 38, 3) := by decide +kernel
theorem dX5_find_21 : decode cX5_find 21 = .ok (.putfield 41, 3) := by decide +kernel
theorem dX5_find_24 : decode cX5_find 24 = .ok (.iconst 0, 1) := by decide +kernel
theorem dX5_find_25 : decode cX5_find 25 = .ok (.istore 5, 2) := by decide +kernel
theorem dX5_find_27 : decode cX5_find 27 = .ok (.iload 5, 2) := by decide +kernel
theorem dX5_find_29 : decode cX5_find 29 = .ok (.aload_n 0, 1) := by decide +kernel
theorem dX5_find_30 : decode cX5_find 30 = .ok (.getfield 35, 3) := by decide +kernel
theorem dX5_find_33 : decode cX5_find 33 = .ok (.if_icmp .ge 84, 3) := by decide +kernel
theorem dX5_find_36 : decode cX5_find 36 = .ok (.aload_n 2, 1) := by decide +kernel
theorem dX5_find_37 : decode cX5_find 37 = .ok (.getfield 42, 3) := by decide +kernel
theorem dX5_find_40 : decode cX5_find 40 = .ok (.aload_n 1, 1) := by decide +kernel
theorem dX5_find_41 : decode cX5_find 41 = .ok (.getfield 48, 3) := by decide +kernel
theorem dX5_find_44 : decode cX5_find 44 = .ok (.iload 4, 2) := by decide +kernel
theorem dX5_find_46 : decode cX5_find 46 = .ok (.iaload, 1) := by decide +kernel
theorem dX5_find_47 : decode cX5_find 47 = .ok (.iload 5, 2) := by decide +kernel
theorem dX5_find_49 : decode cX5_find 49 = .ok (.iadd, 1) := by decide +kernel
theorem dX5_find_50 : decode cX5_find 50 = .ok (.laload, 1) := by decide +kernel
theorem dX5_find_51 : decode cX5_find 51 = .ok (.lstore 6, 2) := by decide +kernel
theorem dX5_find_53 : decode cX5_find 53 = .ok (.aload_n 0, 1) := by decide +kernel
theorem dX5_find_54 : decode cX5_find 54 = .ok (.getfield 16, 3) := by decide +kernel
theorem dX5_find_57 : decode cX5_find 57 = .ok (.iload 5, 2) := by decide +kernel
theorem dX5_find_59 : decode cX5_find 59 = .ok (.lload 6, 2) := by decide +kernel
theorem dX5_find_61 : decode cX5_find 61 = .ok (.invokestatic 51, 3) := by decide +kernel
theorem dX5_find_64 : decode cX5_find 64 = .ok (.iastore, 1) := by decide +kernel
theorem dX5_find_65 : decode cX5_find 65 = .ok (.iconst 0, 1) := by decide +kernel
theorem dX5_find_66 : decode cX5_find 66 = .ok (.istore 8, 2) := by decide +kernel
theorem dX5_find_68 : decode cX5_find 68 = .ok (.iload 8, 2) := by decide +kernel
theorem dX5_find_70 : decode cX5_find 70 = .ok (.aload_n 0, 1) := by decide +kernel
theorem dX5_find_71 : decode cX5_find 71 = .ok (.getfield 16, 3) := by decide +kernel
theorem dX5_find_74 : decode cX5_find 74 = .ok (.iload 5, 2) := by decide +kernel
theorem dX5_find_76 : decode cX5_find 76 = .ok (.iaload, 1) := by decide +kernel
theorem dX5_find_77 : decode cX5_find 77 = .ok (.if_icmp .gt 34, 3) := by decide +kernel
theorem dX5_find_80 : decode cX5_find 80 = .ok (.aload_n 0, 1) := by decide +kernel
theorem dX5_find_81 : decode cX5_find 81 = .ok (.getfield 11, 3) := by decide +kernel
theorem dX5_find_84 : decode cX5_find 84 = .ok (.iload 5, 2) := by decide +kernel
theorem dX5_find_86 : decode cX5_find 86 = .ok (.aaload, 1) := by decide +kernel
theorem dX5_find_87 : decode cX5_find 87 = .ok (.iload 8, 2) := by decide +kernel
theorem dX5_find_89 : decode cX5_find 89 = .ok (.aload_n 1, 1) := by decide +kernel
theorem dX5_find_90 : decode cX5_find 90 = .ok (.lload 6, 2) := by decide +kernel
theorem dX5_find_92 : decode cX5_find 92 = .ok (.iload 8, 2) := by decide +kernel
theorem dX5_find_94 : decode cX5_find 94 = .ok (.invokestatic 57, 3) := by decide +kernel
theorem dX5_find_97 : decode cX5_find 97 = .ok (.aload_n 2, 1) := by decide +kernel
theorem dX5_find_98 : decode cX5_find 98 = .ok (.getfield 61, 3) := by decide +kernel
theorem dX5_find_101 : decode cX5_find 101 = .ok (.invokevirtual 64, 3) := by decide +kernel
theorem dX5_find_104 : decode cX5_find 104 = .ok (.iastore, 1) := by decide +kernel
theorem dX5_find_105 : decode cX5_find 105 = .ok (.iinc 8 1, 3) := by decide +kernel
theorem dX5_find_108 : decode cX5_find 108 = .ok (.goto (-40), 3) := by decide +kernel
theorem dX5_find_111 : decode cX5_find 111 = .ok (.iinc 5 1, 3) := by decide +kernel
theorem dX5_find_114 : decode cX5_find 114 = .ok (.goto (-87), 3) := by decide +kernel
theorem dX5_find_117 : decode cX5_find 117 = .ok (.aload_n 0, 1) := by decide +kernel
theorem dX5_find_118 : decode cX5_find 118 = .ok (.bipush 31, 2) := by decide +kernel
theorem dX5_find_120 : decode cX5_find 120 = .ok (.putfield 68, 3) := by decide +kernel
theorem dX5_find_123 : decode cX5_find 123 = .ok (.aload_n 0, 1) := by decide +kernel
theorem dX5_find_124 : decode cX5_find 124 = .ok (.iconst 0, 1) := by decide +kernel
theorem dX5_find_125 : decode cX5_find 125 = .ok (.iconst 0, 1) := by decide +kernel
theorem dX5_find_126 : decode cX5_find 126 = .ok (.iconst 0, 1) := by decide +kernel
theorem dX5_find_127 : decode cX5_find 127 = .ok (.invokevirtual 71, 3) := by decide +kernel
theorem dX5_find_130 : decode cX5_find 130 = .ok (.aload_n 0, 1) := by decide +kernel
theorem dX5_find_131 : decode cX5_find 131 = .ok (.getfield 68, 3) := by decide +kernel
theorem dX5_find_134 : decode cX5_find 134 = .ok (.bipush 31, 2) := by decide +kernel
theorem dX5_find_136 : decode cX5_find 136 = .ok (.if_icmp .ge 7, 3) := by decide +kernel
theorem dX5_find_139 : decode cX5_find 139 = .ok (.iconst 1, 1) := by decide +kernel
theorem dX5_find_140 : decode cX5_find 140 = .ok (.goto 4, 3) := by decide +kernel
theorem dX5_find_143 : decode cX5_find 143 = .ok (.iconst 0, 1) := by decide +kernel
theorem dX5_find_144 : decode cX5_find 144 = .ok (.ireturn, 1) := by decide +kernel
theorem dX5_search_0 : decode cX5_search 0 = .ok (.iload_n 2, 1) := by decide +kernel
theorem dX5_search_1 : decode cX5_search 1 = .ok (.aload_n 0, 1) := by decide +kernel
theorem dX5_search_2 : decode cX5_search 2 = .ok (.getfield 68, 3) := by decide +kernel
theorem dX5_search_5 : decode cX5_search 5 = .ok (.if_icmp .lt 4, 3) := by decide +kernel
theorem dX5_search_8 : decode cX5_search 8 = .ok (.return_, 1) := by decide +kernel
theorem dX5_search_9 : decode cX5_search 9 = .ok (.iload_n 1, 1) := by decide +kernel
theorem dX5_search_10 : decode cX5_search 10 = .ok (.aload_n 0, 1) := by decide +kernel
theorem dX5_search_11 : decode cX5_search 11 = .ok (.getfield 35, 3) := by decide +kernel
theorem dX5_search_14 : decode cX5_search 14 = .ok (.if_icmp .lt 45, 3) := by decide +kernel
theorem dX5_search_17 : decode cX5_search 17 = .ok (.iload_n 3, 1) := by decide +kernel
theorem dX5_search_18 : decode cX5_search 18 = .ok (.aload_n 0, 1) := by decide +kernel
theorem dX5_search_19 : decode cX5_search 19 = .ok (.getfield 35, 3) := by decide +kernel
theorem dX5_search_22 : decode cX5_search 22 = .ok (.aload_n 0, 1) := by decide +kernel
theorem dX5_search_23 : decode cX5_search 23 = .ok (.getfield 41, 3) := by decide +kernel
theorem dX5_search_26 : decode cX5_search 26 = .ok (.invokestatic 75, 3) := by decide +kernel
theorem dX5_search_29 : decode cX5_search 29 = .ok (.aload_n 0, 1) := by decide +kernel
theorem dX5_search_30 : decode cX5_search 30 = .ok (.getfield 26, 3) := by decide +kernel
theorem dX5_search_33 : decode cX5_search 33 = .ok (.if_icmp .ne 25, 3) := by decide +kernel
theorem dX5_search_36 : decode cX5_search 36 = .ok (.aload_n 0, 1) := by decide +kernel
theorem dX5_search_37 : decode cX5_search 37 = .ok (.iload_n 2, 1) := by decide +kernel
theorem dX5_search_38 : decode cX5_search 38 = .ok (.putfield 68, 3) := by decide +kernel
theorem dX5_search_41 : decode cX5_search 41 = .ok (.aload_n 0, 1) := by decide +kernel
theorem dX5_search_42 : decode cX5_search 42 = .ok (.getfield 20, 3) := by decide +kernel
theorem dX5_search_45 : decode cX5_search 45 = .ok (.iconst 0, 1) := by decide +kernel
theorem dX5_search_46 : decode cX5_search 46 = .ok (.aload_n 0, 1) := by decide +kernel
theorem dX5_search_47 : decode cX5_search 47 = .ok (.getfield 23, 3) := by decide +kernel
theorem dX5_search_50 : decode cX5_search 50 = .ok (.iconst 0, 1) := by decide +kernel
theorem dX5_search_51 : decode cX5_search 51 = .ok (.aload_n 0, 1) := by decide +kernel
theorem dX5_search_52 : decode cX5_search 52 = .ok (.getfield 35, 3) := by decide +kernel
theorem dX5_search_55 : decode cX5_search 55 = .ok (.invokestatic 79, 3) := by decide +kernel
theorem dX5_search_58 : decode cX5_search 58 = .ok (.return_, 1) := by decide +kernel
theorem dX5_search_59 : decode cX5_search 59 = .ok (.iconst 0, 1) := by decide +kernel
theorem dX5_search_60 : decode cX5_search 60 = .ok (.istore 4, 2) := by decide +kernel
theorem dX5_search_62 : decode cX5_search 62 = .ok (.iload 4, 2) := by decide +kernel
theorem dX5_search_64 : decode cX5_search 64 = .ok (.aload_n 0, 1) := by decide +kernel
theorem dX5_search_65 : decode cX5_search 65 = .ok (.getfield 16, 3) := by decide +kernel
theorem dX5_search_68 : decode cX5_search 68 = .ok (.iload_n 1, 1) := by decide +kernel
theorem dX5_search_69 : decode cX5_search 69 = .ok (.iaload, 1) := by decide +kernel
theorem dX5_search_70 : decode cX5_search 70 = .ok (.if_icmp .gt 42, 3) := by decide +kernel
theorem dX5_search_73 : decode cX5_search 73 = .ok (.aload_n 0, 1) := by decide +kernel
theorem dX5_search_74 : decode cX5_search 74 = .ok (.getfield 20, 3) := by decide +kernel
theorem dX5_search_77 : decode cX5_search 77 = .ok (.iload_n 1, 1) := by decide +kernel
theorem dX5_search_78 : decode cX5_search 78 = .ok (.iload 4, 2) := by decide +kernel
theorem dX5_search_80 : decode cX5_search 80 = .ok (.iastore, 1) := by decide +kernel
theorem dX5_search_81 : decode cX5_search 81 = .ok (.aload_n 0, 1) := by decide +kernel
theorem dX5_search_82 : decode cX5_search 82 = .ok (.iload_n 1, 1) := by decide +kernel
theorem dX5_search_83 : decode cX5_search 83 = .ok (.iconst 1, 1) := by decide +kernel
theorem dX5_search_84 : decode cX5_search 84 = .ok (.iadd, 1) := by decide +kernel
theorem dX5_search_85 : decode cX5_search 85 = .ok (.iload_n 2, 1) := by decide +kernel
theorem dX5_search_86 : decode cX5_search 86 = .ok (.iload 4, 2) := by decide +kernel
theorem dX5_search_88 : decode cX5_search 88 = .ok (.iadd, 1) := by decide +kernel
theorem dX5_search_89 : decode cX5_search 89 = .ok (.iload_n 3, 1) := by decide +kernel
theorem dX5_search_90 : decode cX5_search 90 = .ok (.aload_n 0, 1) := by decide +kernel
theorem dX5_search_91 : decode cX5_search 91 = .ok (.getfield 11, 3) := by decide +kernel
theorem dX5_search_94 : decode cX5_search 94 = .ok (.iload_n 1, 1) := by decide +kernel
theorem dX5_search_95 : decode cX5_search 95 = .ok (.aaload, 1) := by decide +kernel
theorem dX5_search_96 : decode cX5_search 96 = .ok (.iload 4, 2) := by decide +kernel
theorem dX5_search_98 : decode cX5_search 98 = .ok (.iaload, 1) := by decide +kernel
theorem dX5_search_99 : decode cX5_search 99 = .ok (.invokestatic 85, 3) := by decide +kernel
theorem dX5_search_102 : decode cX5_search 102 = .ok (.iadd, 1) := by decide +kernel
theorem dX5_search_103 : decode cX5_search 103 = .ok (.invokevirtual 71, 3) := by decide +kernel
theorem dX5_search_106 : decode cX5_search 106 = .ok (.iinc 4 1, 3) := by decide +kernel
theorem dX5_search_109 : decode cX5_search 109 = .ok (.goto (-47), 3) := by decide +kernel
theorem dX5_search_112 : decode cX5_search 112 = .ok (.return_, 1) := by decide +kernel
theorem dX6_init_0 : decode cX6_init 0 = .ok (.aload_n 0, 1) := by decide +kernel
theorem dX6_init_1 : decode cX6_init 1 = .ok (.invokespecial 3, 3) := by decide +kernel
theorem dX6_init_4 : decode cX6_init 4 = .ok (.aload_n 0, 1) := by decide +kernel
theorem dX6_init_5 : decode cX6_init 5 = .ok (.bipush 16, 2) := by decide +kernel
theorem dX6_init_7 : decode cX6_init 7 = .ok (.newarray .long, 2) := by decide +kernel
theorem dX6_init_9 : decode cX6_init 9 = .ok (.putfield 9, 3) := by decide +kernel
theorem dX6_init_12 : decode cX6_init 12 = .ok (.aload_n 0, 1) := by decide +kernel
theorem dX6_init_13 : decode cX6_init 13 = .ok (.iconst 4, 1) := by decide +kernel
theorem dX6_init_14 : decode cX6_init 14 = .ok (.newarray .int, 2) := by decide +kernel
theorem dX6_init_16 : decode cX6_init 16 = .ok (.putfield 15, 3) := by decide +kernel
theorem dX6_init_19 : decode cX6_init 19 = .ok (.return_, 1) := by decide +kernel
theorem dX6_copyFrom_0 : decode cX6_copyFrom 0 = .ok (.aload_n 1, 1) := by decide +kernel
theorem dX6_copyFrom_1 : decode cX6_copyFrom 1 = .ok (.getfield 9, 3) := by decide +kernel
theorem dX6_copyFrom_4 : decode cX6_copyFrom 4 = .ok (.iconst 0, 1) := by decide +kernel
theorem dX6_copyFrom_5 : decode cX6_copyFrom 5 = .ok (.aload_n 0, 1) := by decide +kernel
theorem dX6_copyFrom_6 : decode cX6_copyFrom 6 = .ok (.getfield 9, 3) := by decide +kernel
theorem dX6_copyFrom_9 : decode cX6_copyFrom 9 = .ok (.iconst 0, 1) := by decide +kernel
theorem dX6_copyFrom_10 : decode cX6_copyFrom 10 = .ok (.bipush 16, 2) := by decide +kernel
theorem dX6_copyFrom_12 : decode cX6_copyFrom 12 = .ok (.invokestatic 19, 3) := by decide +kernel
theorem dX6_copyFrom_15 : decode cX6_copyFrom 15 = .ok (.aload_n 1, 1) := by decide +kernel
theorem dX6_copyFrom_16 : decode cX6_copyFrom 16 = .ok (.getfield 15, 3) := by decide +kernel
theorem dX6_copyFrom_19 : decode cX6_copyFrom 19 = .ok (.iconst 0, 1) := by decide +kernel
theorem dX6_copyFrom_20 : decode cX6_copyFrom 20 = .ok (.aload_n 0, 1) := by decide +kernel
theorem dX6_copyFrom_21 : decode cX6_copyFrom 21 = .ok (.getfield 15, 3) := by decide +kernel
theorem dX6_copyFrom_24 : decode cX6_copyFrom 24 = .ok (.iconst 0, 1) := by decide +kernel
theorem dX6_copyFrom_25 : decode cX6_copyFrom 25 = .ok (.iconst 4, 1) := by decide +kernel
theorem dX6_copyFrom_26 : decode cX6_copyFrom 26 = .ok (.invokestatic 19, 3) := by decide +kernel
theorem dX6_copyFrom_29 : decode cX6_copyFrom 29 = .ok (.aload_n 0, 1) := by decide +kernel
theorem dX6_copyFrom_30 : decode cX6_copyFrom 30 = .ok (.aload_n 1, 1) := by decide +kernel
theorem dX6_copyFrom_31 : decode cX6_copyFrom 31 = .ok (.getfield 25, 3) := by decide +kernel
theorem dX6_copyFrom_34 : decode cX6_copyFrom 34 = .ok (.putfield 25, 3) := by decide +kernel
theorem dX6_copyFrom_37 : decode cX6_copyFrom 37 = .ok (.aload_n 0, 1) := by decide +kernel
theorem dX6_copyFrom_38 : decode cX6_copyFrom 38 = .ok (.aload_n 1, 1) := by decide +kernel
theorem dX6_copyFrom_39 : decode cX6_copyFrom 39 = .ok (.getfield 29, 3) := by decide +kernel
theorem dX6_copyFrom_42 : decode cX6_copyFrom 42 = .ok (.putfield 29, 3) := by decide +kernel
theorem dX6_copyFrom_45 : decode cX6_copyFrom 45 = .ok (.return_, 1) := by decide +kernel
theorem dX6_isBare_0 : decode cX6_isBare 0 = .ok (.aload_n 0, 1) := by decide +kernel
theorem dX6_isBare_1 : decode cX6_isBare 1 = .ok (.getfield 29, 3) := by decide +kernel
theorem dX6_isBare_4 : decode cX6_isBare 4 = .ok (.iload_n 1, 1) := by decide +kernel
theorem dX6_isBare_5 : decode cX6_isBare 5 = .ok (.ishr, 1) := by decide +kernel
theorem dX6_isBare_6 : decode cX6_isBare 6 = .ok (.iconst 1, 1) := by decide +kernel
theorem dX6_isBare_7 : decode cX6_isBare 7 = .ok (.iand, 1) := by decide +kernel
theorem dX6_isBare_8 : decode cX6_isBare 8 = .ok (.iconst 1, 1) := by decide +kernel
theorem dX6_isBare_9 : decode cX6_isBare 9 = .ok (.if_icmp .ne 7, 3) := by decide +kernel
theorem dX6_isBare_12 : decode cX6_isBare 12 = .ok (.iconst 1, 1) := by decide +kernel
theorem dX6_isBare_13 : decode cX6_isBare 13 = .ok (.goto 4, 3) := by decide +kernel
theorem dX6_isBare_16 : decode cX6_isBare 16 = .ok (.iconst 0, 1) := by decide +kernel
theorem dX6_isBare_17 : decode cX6_isBare 17 = .ok (.ireturn, 1) := by decide +kernel
theorem dX7_init_0 : decode cX7_init 0 = .ok (.aload_n 0, 1) := by decide +kernel
theorem dX7_init_1 : decode cX7_init 1 = .ok (.invokespecial 3, 3) := by decide +kernel
theorem dX7_init_4 : decode cX7_init 4 = .ok (.aload_n 0, 1) := by decide +kernel
theorem dX7_init_5 : decode cX7_init 5 = .ok (.iconst 4, 1) := by decide +kernel
theorem dX7_init_6 : decode cX7_init 6 = .ok (.newarray .int, 2) := by decide +kernel
theorem dX7_init_8 : decode cX7_init 8 = .ok (.putfield 9, 3) := by decide +kernel
theorem dX7_init_11 : decode cX7_init 11 = .ok (.aload_n 0, 1) := by decide +kernel
theorem dX7_init_12 : decode cX7_init 12 = .ok (.iconst 4, 1) := by decide +kernel
theorem dX7_init_13 : decode cX7_init 13 = .ok (.newarray .int, 2) := by decide +kernel
theorem dX7_init_15 : decode cX7_init 15 = .ok (.putfield 15, 3) := by decide +kernel
theorem dX7_init_18 : decode cX7_init 18 = .ok (.aload_n 0, 1) := by decide +kernel
theorem dX7_init_19 : decode cX7_init 19 = .ok (.iconst 4, 1) := by decide +kernel
theorem dX7_init_20 : decode cX7_init 20 = .ok (.newarray .int, 2) := by decide +kernel
theorem dX7_init_22 : decode cX7_init 22 = .ok (.putfield 18, 3) := by decide +kernel
theorem dX7_init_25 : decode cX7_init 25 = .ok (.aload_n 0, 1) := by decide +kernel
theorem dX7_init_26 : decode cX7_init 26 = .ok (.bipush 16, 2) := by decide +kernel
theorem dX7_init_28 : decode cX7_init 28 = .ok (.newarray .int, 2) := by decide +kernel
theorem dX7_init_30 : decode cX7_init 30 = .ok (.putfield 21, 3) := by decide +kernel
theorem dX7_init_33 : decode cX7_init 33 = .ok (.aload_n 0, 1) := by decide +kernel
theorem dX7_init_34 : decode cX7_init 34 = .ok (.iconst 4, 1) := by decide +kernel
theorem dX7_init_35 : decode cX7_init 35 = .ok (.newarray .int, 2) := by decide +kernel
theorem dX7_init_37 : decode cX7_init 37 = .ok (.putfield 24, 3) := by decide +kernel
theorem dX7_init_40 : decode cX7_init 40 = .ok (.aload_n 0, 1) := by decide +kernel
theorem dX7_init_41 : decode cX7_init 41 = .ok (.iconst 5, 1) := by decide +kernel
theorem dX7_init_42 : decode cX7_init 42 = .ok (.newarray .int, 2) := by decide +kernel
theorem dX7_init_44 : decode cX7_init 44 = .ok (.putfield 27, 3) := by decide +kernel
theorem dX7_init_47 : decode cX7_init 47 = .ok (.aload_n 0, 1) := by decide +kernel
theorem dX7_init_48 : decode cX7_init 48 = .ok (.iconst 5, 1) := by decide +kernel
theorem dX7_init_49 : decode cX7_init 49 = .ok (.newarray .int, 2) := by decide +kernel
theorem dX7_init_51 : decode cX7_init 51 = .ok (.putfield 30, 3) := by decide +kernel
theorem dX7_init_54 : decode cX7_init 54 = .ok (.aload_n 0, 1) := by decide +kernel
theorem dX7_init_55 : decode cX7_init 55 = .ok (.new 33, 3) := by decide +kernel
theorem dX7_init_58 : decode cX7_init 58 = .ok (.dup, 1) := by decide +kernel
theorem dX7_init_59 : decode cX7_init 59 = .ok (.invokespecial 35, 3) := by decide +kernel
theorem dX7_init_62 : decode cX7_init 62 = .ok (.putfield 36, 3) := by decide +kernel
theorem dX7_init_65 : decode cX7_init 65 = .ok (.return_, 1) := by decide +kernel
theorem dX7_rainsIn_0 : decode cX7_rainsIn 0 = .ok (.iconst 0, 1) := by decide +kernel
theorem dX7_rainsIn_1 : decode cX7_rainsIn 1 = .ok (.istore_n 2, 1) := by decide +kernel
theorem dX7_rainsIn_2 : decode cX7_rainsIn 2 = .ok (.iload_n 2, 1) := by decide +kernel
theorem dX7_rainsIn_3 : decode cX7_rainsIn 3 = .ok (.aload_n 0, 1) := by decide +kernel
theorem dX7_rainsIn_4 : decode cX7_rainsIn 4 = .ok (.getfield 40, 3) := by decide +kernel
theorem dX7_rainsIn_7 : decode cX7_rainsIn 7 = .ok (.if_icmp .ge 31, 3) := by decide +kernel
theorem dX7_rainsIn_10 : decode cX7_rainsIn 10 = .ok (.iload_n 1, 1) := by decide +kernel
theorem dX7_rainsIn_11 : decode cX7_rainsIn 11 = .ok (.aload_n 0, 1) := by decide +kernel
theorem dX7_rainsIn_12 : decode cX7_rainsIn 12 = .ok (.getfield 27, 3) := by decide +kernel
theorem dX7_rainsIn_15 : decode cX7_rainsIn 15 = .ok (.iload_n 2, 1) := by decide +kernel
theorem dX7_rainsIn_16 : decode cX7_rainsIn 16 = .ok (.iaload, 1) := by decide +kernel
theorem dX7_rainsIn_17 : decode cX7_rainsIn 17 = .ok (.if_icmp .lt 15, 3) := by decide +kernel
theorem dX7_rainsIn_20 : decode cX7_rainsIn 20 = .ok (.iload_n 1, 1) := by decide +kernel
theorem dX7_rainsIn_21 : decode cX7_rainsIn 21 = .ok (.aload_n 0, 1) := by decide +kernel
theorem dX7_rainsIn_22 : decode cX7_rainsIn 22 = .ok (.getfield 30, 3) := by decide +kernel
theorem dX7_rainsIn_25 : decode cX7_rainsIn 25 = .ok (.iload_n 2, 1) := by decide +kernel
theorem dX7_rainsIn_26 : decode cX7_rainsIn 26 = .ok (.iaload, 1) := by decide +kernel
theorem dX7_rainsIn_27 : decode cX7_rainsIn 27 = .ok (.if_icmp .gt 5, 3) := by decide +kernel
theorem dX7_rainsIn_30 : decode cX7_rainsIn 30 = .ok (.iconst 1, 1) := by decide +kernel
theorem dX7_rainsIn_31 : decode cX7_rainsIn 31 = .ok (.ireturn, 1) := by decide +kernel
theorem dX7_rainsIn_32 : decode cX7_rainsIn 32 = .ok (.iinc 2 1, 3) := by decide +kernel
theorem dX7_rainsIn_35 : decode cX7_rainsIn 35 = .ok (.goto (-33), 3) := by decide +kernel
theorem dX7_rainsIn_38 : decode cX7_rainsIn 38 = .ok (.iconst 0, 1) := by decide +kernel
theorem dX7_rainsIn_39 : decode cX7_rainsIn 39 = .ok (.ireturn, 1) := by decide +kernel
theorem dX7_driesFrom_0 : decode cX7_driesFrom 0 = .ok (.iconst 0, 1) := by decide +kernel
theorem dX7_driesFrom_1 : decode cX7_driesFrom 1 = .ok (.istore_n 2, 1) := by decide +kernel
theorem dX7_driesFrom_2 : decode cX7_driesFrom 2 = .ok (.iload_n 2, 1) := by decide +kernel
theorem dX7_driesFrom_3 : decode cX7_driesFrom 3 = .ok (.aload_n 0, 1) := by decide +kernel
theorem dX7_driesFrom_4 : decode cX7_driesFrom 4 = .ok (.getfield 44, 3) := by decide +kernel
theorem dX7_driesFrom_7 : decode cX7_driesFrom 7 = .ok (.if_icmp .ge 21, 3) := by decide +kernel
theorem dX7_driesFrom_10 : decode cX7_driesFrom 10 = .ok (.aload_n 0, 1) := by decide +kernel
theorem dX7_driesFrom_11 : decode cX7_driesFrom 11 = .ok (.iload_n 1, 1) := by decide +kernel
theorem dX7_driesFrom_12 : decode cX7_driesFrom 12 = .ok (.iload_n 2, 1) := by decide +kernel
theorem dX7_driesFrom_13 : decode cX7_driesFrom 13 = .ok (.iadd, 1) := by decide +kernel
theorem dX7_driesFrom_14 : decode cX7_driesFrom 14 = .ok (.invokevirtual 47, 3) := by decide +kernel
theorem dX7_driesFrom_17 : decode cX7_driesFrom 17 = .ok (.ifCond .eq 5, 3) := by decide +kernel
theorem dX7_driesFrom_20 : decode cX7_driesFrom 20 = .ok (.iconst 0, 1) := by decide +kernel
theorem dX7_driesFrom_21 : decode cX7_driesFrom 21 = .ok (.ireturn, 1) := by decide +kernel
theorem dX7_driesFrom_22 : decode cX7_driesFrom 22 = .ok (.iinc 2 1, 3) := by decide +kernel
theorem dX7_driesFrom_25 : decode cX7_driesFrom 25 = .ok (.goto (-23), 3) := by decide +kernel
theorem dX7_driesFrom_28 : decode cX7_driesFrom 28 = .ok (.iconst 1, 1) := by decide +kernel
theorem dX7_driesFrom_29 : decode cX7_driesFrom 29 = .ok (.ireturn, 1) := by decide +kernel
theorem dX7_isWet_0 : decode cX7_isWet 0 = .ok (.lload_n 1, 1) := by decide +kernel
theorem dX7_isWet_1 : decode cX7_isWet 1 = .ok (.lconst 0, 1) := by decide +kernel
theorem dX7_isWet_2 : decode cX7_isWet 2 = .ok (.lcmp, 1) := by decide +kernel
theorem dX7_isWet_3 : decode cX7_isWet 3 = .ok (.ifCond .ne 5, 3) := by decide +kernel
theorem dX7_isWet_6 : decode cX7_isWet 6 = .ok (.iconst 0, 1) := by decide +kernel
theorem dX7_isWet_7 : decode cX7_isWet 7 = .ok (.ireturn, 1) := by decide +kernel
theorem dX7_isWet_8 : decode cX7_isWet 8 = .ok (.lload_n 1, 1) := by decide +kernel
theorem dX7_isWet_9 : decode cX7_isWet 9 = .ok (.invokestatic 51, 3) := by decide +kernel
theorem dX7_isWet_12 : decode cX7_isWet 12 = .ok (.istore 4, 2) := by decide +kernel
theorem dX7_isWet_14 : decode cX7_isWet 14 = .ok (.iload 4, 2) := by decide +kernel
theorem dX7_isWet_16 : decode cX7_isWet 16 = .ok (.iconst (-1), 1) := by decide +kernel
theorem dX7_isWet_17 : decode cX7_isWet 17 = .ok (.if_icmp .eq 18, 3) := by decide +kernel
theorem dX7_isWet_20 : decode cX7_isWet 20 = .ok (.iload_n 3, 1) := by decide +kernel
theorem dX7_isWet_21 : decode cX7_isWet 21 = .ok (.iload 4, 2) := by decide +kernel
theorem dX7_isWet_23 : decode cX7_isWet 23 = .ok (.isub, 1) := by decide +kernel
theorem dX7_isWet_24 : decode cX7_isWet 24 = .ok (.aload_n 0, 1) := by decide +kernel
theorem dX7_isWet_25 : decode cX7_isWet 25 = .ok (.getfield 44, 3) := by decide +kernel
theorem dX7_isWet_28 : decode cX7_isWet 28 = .ok (.if_icmp .ge 7, 3) := by decide +kernel
theorem dX7_isWet_31 : decode cX7_isWet 31 = .ok (.iconst 1, 1) := by decide +kernel
theorem dX7_isWet_32 : decode cX7_isWet 32 = .ok (.goto 4, 3) := by decide +kernel
theorem dX7_isWet_35 : decode cX7_isWet 35 = .ok (.iconst 0, 1) := by decide +kernel
theorem dX7_isWet_36 : decode cX7_isWet 36 = .ok (.ireturn, 1) := by decide +kernel
theorem dX7_washed_0 : decode cX7_washed 0 = .ok (.iconst 0, 1) := by decide +kernel
theorem dX7_washed_1 : decode cX7_washed 1 = .ok (.istore 4, 2) := by decide +kernel
theorem dX7_washed_3 : decode cX7_washed 3 = .ok (.iload 4, 2) := by decide +kernel
theorem dX7_washed_5 : decode cX7_washed 5 = .ok (.iconst 5, 1) := by decide +kernel
theorem dX7_washed_6 : decode cX7_washed 6 = .ok (.if_icmp .ge 30, 3) := by decide +kernel
theorem dX7_washed_9 : decode cX7_washed 9 = .ok (.lload_n 1, 1) := by decide +kernel
theorem dX7_washed_10 : decode cX7_washed 10 = .ok (.iload 4, 2) := by decide +kernel
theorem dX7_washed_12 : decode cX7_washed 12 = .ok (.invokestatic 57, 3) := by decide +kernel
theorem dX7_washed_15 : decode cX7_washed 15 = .ok (.lstore 5, 2) := by decide +kernel
theorem dX7_washed_17 : decode cX7_washed 17 = .ok (.aload_n 0, 1) := by decide +kernel
theorem dX7_washed_18 : decode cX7_washed 18 = .ok (.lload 5, 2) := by decide +kernel
theorem dX7_washed_20 : decode cX7_washed 20 = .ok (.iload_n 3, 1) := by decide +kernel
theorem dX7_washed_21 : decode cX7_washed 21 = .ok (.invokevirtual 61, 3) := by decide +kernel
theorem dX7_washed_24 : decode cX7_washed 24 = .ok (.ifCond .ne 6, 3) := by decide +kernel
theorem dX7_washed_27 : decode cX7_washed 27 = .ok (.lload 5, 2) := by decide +kernel
theorem dX7_washed_29 : decode cX7_washed 29 = .ok (.lreturn, 1) := by decide +kernel
theorem dX7_washed_30 : decode cX7_washed 30 = .ok (.iinc 4 1, 3) := by decide +kernel
theorem dX7_washed_33 : decode cX7_washed 33 = .ok (.goto (-30), 3) := by decide +kernel
theorem dX7_washed_36 : decode cX7_washed 36 = .ok (.lconst 0, 1) := by decide +kernel
theorem dX7_washed_37 : decode cX7_washed 37 = .ok (.lreturn, 1) := by decide +kernel
theorem dX7_afterRain_0 : decode cX7_afterRain 0 = .ok (.lload_n 1, 1) := by decide +kernel
theorem dX7_afterRain_1 : decode cX7_afterRain 1 = .ok (.lstore 5, 2) := by decide +kernel
theorem dX7_afterRain_3 : decode cX7_afterRain 3 = .ok (.iconst 0, 1) := by decide +kernel
theorem dX7_afterRain_4 : decode cX7_afterRain 4 = .ok (.istore 7, 2) := by decide +kernel
theorem dX7_afterRain_6 : decode cX7_afterRain 6 = .ok (.iload 7, 2) := by decide +kernel
theorem dX7_afterRain_8 : decode cX7_afterRain 8 = .ok (.iload 4, 2) := by decide +kernel
theorem dX7_afterRain_10 : decode cX7_afterRain 10 = .ok (.if_icmp .ge 32, 3) := by decide +kernel
theorem dX7_afterRain_13 : decode cX7_afterRain 13 = .ok (.aload_n 0, 1) := by decide +kernel
theorem dX7_afterRain_14 : decode cX7_afterRain 14 = .ok (.iload_n 3, 1) := by decide +kernel
theorem dX7_afterRain_15 : decode cX7_afterRain 15 = .ok (.iload 7, 2) := by decide +kernel
theorem dX7_afterRain_17 : decode cX7_afterRain 17 = .ok (.iadd, 1) := by decide +kernel
theorem dX7_afterRain_18 : decode cX7_afterRain 18 = .ok (.invokevirtual 47, 3) := by decide +kernel
theorem dX7_afterRain_21 : decode cX7_afterRain 21 = .ok (.ifCond .eq 15, 3) := by decide +kernel
theorem dX7_afterRain_24 : decode cX7_afterRain 24 = .ok (.aload_n 0, 1) := by decide +kernel
theorem dX7_afterRain_25 : decode cX7_afterRain 25 = .ok (.lload 5, 2) := by decide +kernel
theorem dX7_afterRain_27 : decode cX7_afterRain 27 = .ok (.iload_n 3, 1) := by decide +kernel
theorem dX7_afterRain_28 : decode cX7_afterRain 28 = .ok (.iload 7, 2) := by decide +kernel
theorem dX7_afterRain_30 : decode cX7_afterRain 30 = .ok (.iadd, 1) := by decide +kernel
theorem dX7_afterRain_31 : decode cX7_afterRain 31 = .ok (.invokevirtual 65, 3) := by decide +kernel
theorem dX7_afterRain_34 : decode cX7_afterRain 34 = .ok (.lstore 5, 2) := by decide +kernel
theorem dX7_afterRain_36 : decode cX7_afterRain 36 = .ok (.iinc 7 1, 3) := by decide +kernel
theorem dX7_afterRain_39 : decode cX7_afterRain 39 = .ok (.goto (-33), 3) := by decide +kernel
theorem dX7_afterRain_42 : decode cX7_afterRain 42 = .ok (.lload 5, 2) := by decide +kernel
theorem dX7_afterRain_44 : decode cX7_afterRain 44 = .ok (.lreturn, 1) := by decide +kernel
theorem dX7_ownerOf_0 : decode cX7_ownerOf 0 = .ok (.iconst 0, 1) := by decide +kernel
theorem dX7_ownerOf_1 : decode cX7_ownerOf 1 = .ok (.istore 4, 2) := by decide +kernel
theorem dX7_ownerOf_3 : decode cX7_ownerOf 3 = .ok (.iload 4, 2) := by decide +kernel
theorem dX7_ownerOf_5 : decode cX7_ownerOf 5 = .ok (.iconst 5, 1) := by decide +kernel
theorem dX7_ownerOf_6 : decode cX7_ownerOf 6 = .ok (.if_icmp .ge 42, 3) := by decide +kernel
theorem dX7_ownerOf_9 : decode cX7_ownerOf 9 = .ok (.lload_n 1, 1) := by decide +kernel
theorem dX7_ownerOf_10 : decode cX7_ownerOf 10 = .ok (.iload 4, 2) := by decide +kernel
theorem dX7_ownerOf_12 : decode cX7_ownerOf 12 = .ok (.invokestatic 57, 3) := by decide +kernel
theorem dX7_ownerOf_15 : decode cX7_ownerOf 15 = .ok (.lstore 5, 2) := by decide +kernel
theorem dX7_ownerOf_17 : decode cX7_ownerOf 17 = .ok (.aload_n 0, 1) := by decide +kernel
theorem dX7_ownerOf_18 : decode cX7_ownerOf 18 = .ok (.lload 5, 2) := by decide +kernel
theorem dX7_ownerOf_20 : decode cX7_ownerOf 20 = .ok (.iload_n 3, 1) := by decide +kernel
theorem dX7_ownerOf_21 : decode cX7_ownerOf 21 = .ok (.invokevirtual 61, 3) := by decide +kernel
theorem dX7_ownerOf_24 : decode cX7_ownerOf 24 = .ok (.ifCond .ne 9, 3) := by decide +kernel
theorem dX7_ownerOf_27 : decode cX7_ownerOf 27 = .ok (.lload 5, 2) := by decide +kernel
theorem dX7_ownerOf_29 : decode cX7_ownerOf 29 = .ok (.invokestatic 68, 3) := by decide +kernel
theorem dX7_ownerOf_32 : decode cX7_ownerOf 32 = .ok (.ireturn, 1) := by decide +kernel
theorem dX7_ownerOf_33 : decode cX7_ownerOf 33 = .ok (.aload_n 0, 1) := by decide +kernel
theorem dX7_ownerOf_34 : decode cX7_ownerOf 34 = .ok (.getfield 71, 3) := by decide +kernel
theorem dX7_ownerOf_37 : decode cX7_ownerOf 37 = .ok (.ifCond .eq 5, 3) := by decide +kernel
theorem dX7_ownerOf_40 : decode cX7_ownerOf 40 = .ok (.iconst (-1), 1) := by decide +kernel
theorem dX7_ownerOf_41 : decode cX7_ownerOf 41 = .ok (.ireturn, 1) := by decide +kernel
theorem dX7_ownerOf_42 : decode cX7_ownerOf 42 = .ok (.iinc 4 1, 3) := by decide +kernel
theorem dX7_ownerOf_45 : decode cX7_ownerOf 45 = .ok (.goto (-42), 3) := by decide +kernel
theorem dX7_ownerOf_48 : decode cX7_ownerOf 48 = .ok (.iconst (-1), 1) := by decide +kernel
theorem dX7_ownerOf_49 : decode cX7_ownerOf 49 = .ok (.ireturn, 1) := by decide +kernel
theorem dX7_oneFor_0 : decode cX7_oneFor 0 = .ok (.iload_n 0, 1) := by decide +kernel
theorem dX7_oneFor_1 : decode cX7_oneFor 1 = .ok (.ifCond .ge 7, 3) := by decide +kernel
theorem dX7_oneFor_4 : decode cX7_oneFor 4 = .ok (.iconst 0, 1) := by decide +kernel
theorem dX7_oneFor_5 : decode cX7_oneFor 5 = .ok (.goto 8, 3) := by decide +kernel
theorem dX7_oneFor_8 : decode cX7_oneFor 8 = .ok (.iconst 1, 1) := by decide +kernel
theorem dX7_oneFor_9 : decode cX7_oneFor 9 = .ok (.iload_n 0, 1) := by decide +kernel
theorem dX7_oneFor_10 : decode cX7_oneFor 10 = .ok (.iconst 4, 1) := by decide +kernel
theorem dX7_oneFor_11 : decode cX7_oneFor 11 = .ok (.imul, 1) := by decide +kernel
theorem dX7_oneFor_12 : decode cX7_oneFor 12 = .ok (.ishl, 1) := by decide +kernel
theorem dX7_oneFor_13 : decode cX7_oneFor 13 = .ok (.ireturn, 1) := by decide +kernel
theorem dX7_countOf_0 : decode cX7_countOf 0 = .ok (.iload_n 0, 1) := by decide +kernel
theorem dX7_countOf_1 : decode cX7_countOf 1 = .ok (.iload_n 1, 1) := by decide +kernel
theorem dX7_countOf_2 : decode cX7_countOf 2 = .ok (.iconst 4, 1) := by decide +kernel
theorem dX7_countOf_3 : decode cX7_countOf 3 = .ok (.imul, 1) := by decide +kernel
theorem dX7_countOf_4 : decode cX7_countOf 4 = .ok (.ishr, 1) := by decide +kernel
theorem dX7_countOf_5 : decode cX7_countOf 5 = .ok (.bipush 15, 2) := by decide +kernel
theorem dX7_countOf_7 : decode cX7_countOf 7 = .ok (.iand, 1) := by decide +kernel
theorem dX7_countOf_8 : decode cX7_countOf 8 = .ok (.ireturn, 1) := by decide +kernel
theorem dX7_tallyOf_0 : decode cX7_tallyOf 0 = .ok (.iconst 0, 1) := by decide +kernel
theorem dX7_tallyOf_1 : decode cX7_tallyOf 1 = .ok (.istore_n 3, 1) := by decide +kernel
theorem dX7_tallyOf_2 : decode cX7_tallyOf 2 = .ok (.aload_n 0, 1) := by decide +kernel
theorem dX7_tallyOf_3 : decode cX7_tallyOf 3 = .ok (.getfield 9, 3) := by decide +kernel
theorem dX7_tallyOf_6 : decode cX7_tallyOf 6 = .ok (.iload_n 2, 1) := by decide +kernel
theorem dX7_tallyOf_7 : decode cX7_tallyOf 7 = .ok (.iaload, 1) := by decide +kernel
theorem dX7_tallyOf_8 : decode cX7_tallyOf 8 = .ok (.istore 4, 2) := by decide +kernel
theorem dX7_tallyOf_10 : decode cX7_tallyOf 10 = .ok (.iload 4, 2) := by decide +kernel
theorem dX7_tallyOf_12 : decode cX7_tallyOf 12 = .ok (.istore 5, 2) := by decide +kernel
theorem dX7_tallyOf_14 : decode cX7_tallyOf 14 = .ok (.iload 5, 2) := by decide +kernel
theorem dX7_tallyOf_16 : decode cX7_tallyOf 16 = .ok (.iload 4, 2) := by decide +kernel
theorem dX7_tallyOf_18 : decode cX7_tallyOf 18 = .ok (.aload_n 0, 1) := by decide +kernel
theorem dX7_tallyOf_19 : decode cX7_tallyOf 19 = .ok (.getfield 15, 3) := by decide +kernel
theorem dX7_tallyOf_22 : decode cX7_tallyOf 22 = .ok (.iload_n 2, 1) := by decide +kernel
theorem dX7_tallyOf_23 : decode cX7_tallyOf 23 = .ok (.iaload, 1) := by decide +kernel
theorem dX7_tallyOf_24 : decode cX7_tallyOf 24 = .ok (.iadd, 1) := by decide +kernel
theorem dX7_tallyOf_25 : decode cX7_tallyOf 25 = .ok (.if_icmp .ge 30, 3) := by decide +kernel
theorem dX7_tallyOf_28 : decode cX7_tallyOf 28 = .ok (.iload_n 3, 1) := by decide +kernel
theorem dX7_tallyOf_29 : decode cX7_tallyOf 29 = .ok (.aload_n 0, 1) := by decide +kernel
theorem dX7_tallyOf_30 : decode cX7_tallyOf 30 = .ok (.aload_n 1, 1) := by decide +kernel
theorem dX7_tallyOf_31 : decode cX7_tallyOf 31 = .ok (.getfield 75, 3) := by decide +kernel
theorem dX7_tallyOf_34 : decode cX7_tallyOf 34 = .ok (.iload 5, 2) := by decide +kernel
theorem dX7_tallyOf_36 : decode cX7_tallyOf 36 = .ok (.laload, 1) := by decide +kernel
theorem dX7_tallyOf_37 : decode cX7_tallyOf 37 = .ok (.aload_n 1, 1) := by decide +kernel
theorem dX7_tallyOf_38 : decode cX7_tallyOf 38 = .ok (.getfield 79, 3) := by decide +kernel
theorem dX7_tallyOf_41 : decode cX7_tallyOf 41 = .ok (.invokevirtual 82, 3) := by decide +kernel
theorem dX7_tallyOf_44 : decode cX7_tallyOf 44 = .ok (.invokestatic 86, 3) := by decide +kernel
theorem dX7_tallyOf_47 : decode cX7_tallyOf 47 = .ok (.iadd, 1) := by decide +kernel
theorem dX7_tallyOf_48 : decode cX7_tallyOf 48 = .ok (.istore_n 3, 1) := by decide +kernel
theorem dX7_tallyOf_49 : decode cX7_tallyOf 49 = .ok (.iinc 5 1, 3) := by decide +kernel
theorem dX7_tallyOf_52 : decode cX7_tallyOf 52 = .ok (.goto (-38), 3) := by decide +kernel
theorem dX7_tallyOf_55 : decode cX7_tallyOf 55 = .ok (.iload_n 3, 1) := by decide +kernel
theorem dX7_tallyOf_56 : decode cX7_tallyOf 56 = .ok (.ireturn, 1) := by decide +kernel
theorem dX7_ownerBy_0 : decode cX7_ownerBy 0 = .ok (.iconst (-1), 1) := by decide +kernel
theorem dX7_ownerBy_1 : decode cX7_ownerBy 1 = .ok (.istore_n 3, 1) := by decide +kernel
theorem dX7_ownerBy_2 : decode cX7_ownerBy 2 = .ok (.iconst 0, 1) := by decide +kernel
theorem dX7_ownerBy_3 : decode cX7_ownerBy 3 = .ok (.istore 4, 2) := by decide +kernel
theorem dX7_ownerBy_5 : decode cX7_ownerBy 5 = .ok (.iconst 0, 1) := by decide +kernel
theorem dX7_ownerBy_6 : decode cX7_ownerBy 6 = .ok (.istore 5, 2) := by decide +kernel
theorem dX7_ownerBy_8 : decode cX7_ownerBy 8 = .ok (.iload 5, 2) := by decide +kernel
theorem dX7_ownerBy_10 : decode cX7_ownerBy 10 = .ok (.iconst 4, 1) := by decide +kernel
theorem dX7_ownerBy_11 : decode cX7_ownerBy 11 = .ok (.if_icmp .ge 43, 3) := by decide +kernel
theorem dX7_ownerBy_14 : decode cX7_ownerBy 14 = .ok (.iload_n 0, 1) := by decide +kernel
theorem dX7_ownerBy_15 : decode cX7_ownerBy 15 = .ok (.iload 5, 2) := by decide +kernel
theorem dX7_ownerBy_17 : decode cX7_ownerBy 17 = .ok (.invokestatic 90, 3) := by decide +kernel
theorem dX7_ownerBy_20 : decode cX7_ownerBy 20 = .ok (.istore 6, 2) := by decide +kernel
theorem dX7_ownerBy_22 : decode cX7_ownerBy 22 = .ok (.iload 6, 2) := by decide +kernel
theorem dX7_ownerBy_24 : decode cX7_ownerBy 24 = .ok (.iload 4, 2) := by decide +kernel
theorem dX7_ownerBy_26 : decode cX7_ownerBy 26 = .ok (.if_icmp .le 13, 3) := by decide +kernel
theorem dX7_ownerBy_29 : decode cX7_ownerBy 29 = .ok (.iload 6, 2) := by decide +kernel
theorem dX7_ownerBy_31 : decode cX7_ownerBy 31 = .ok (.istore 4, 2) := by decide +kernel
theorem dX7_ownerBy_33 : decode cX7_ownerBy 33 = .ok (.iload 5, 2) := by decide +kernel
theorem dX7_ownerBy_35 : decode cX7_ownerBy 35 = .ok (.istore_n 3, 1) := by decide +kernel
theorem dX7_ownerBy_36 : decode cX7_ownerBy 36 = .ok (.goto 12, 3) := by decide +kernel
theorem dX7_ownerBy_39 : decode cX7_ownerBy 39 = .ok (.iload 6, 2) := by decide +kernel
theorem dX7_ownerBy_41 : decode cX7_ownerBy 41 = .ok (.iload 4, 2) := by decide +kernel
theorem dX7_ownerBy_43 : decode cX7_ownerBy 43 = .ok (.if_icmp .ne 5, 3) := by decide +kernel
theorem dX7_ownerBy_46 : decode cX7_ownerBy 46 = .ok (.iconst (-1), 1) := by decide +kernel
theorem dX7_ownerBy_47 : decode cX7_ownerBy 47 = .ok (.istore_n 3, 1) := by decide +kernel
theorem dX7_ownerBy_48 : decode cX7_ownerBy 48 = .ok (.iinc 5 1, 3) := by decide +kernel
theorem dX7_ownerBy_51 : decode cX7_ownerBy 51 = .ok (.goto (-43), 3) := by decide +kernel
theorem dX7_ownerBy_54 : decode cX7_ownerBy 54 = .ok (.iload 4, 2) := by decide +kernel
theorem dX7_ownerBy_56 : decode cX7_ownerBy 56 = .ok (.bipush 100, 2) := by decide +kernel
theorem dX7_ownerBy_58 : decode cX7_ownerBy 58 = .ok (.imul, 1) := by decide +kernel
theorem dX7_ownerBy_59 : decode cX7_ownerBy 59 = .ok (.iload_n 2, 1) := by decide +kernel
theorem dX7_ownerBy_60 : decode cX7_ownerBy 60 = .ok (.iload_n 1, 1) := by decide +kernel
theorem dX7_ownerBy_61 : decode cX7_ownerBy 61 = .ok (.imul, 1) := by decide +kernel
theorem dX7_ownerBy_62 : decode cX7_ownerBy 62 = .ok (.if_icmp .lt 7, 3) := by decide +kernel
theorem dX7_ownerBy_65 : decode cX7_ownerBy 65 = .ok (.iload_n 3, 1) := by decide +kernel
theorem dX7_ownerBy_66 : decode cX7_ownerBy 66 = .ok (.goto 4, 3) := by decide +kernel
theorem dX7_ownerBy_69 : decode cX7_ownerBy 69 = .ok (.iconst (-1), 1) := by decide +kernel
theorem dX7_ownerBy_70 : decode cX7_ownerBy 70 = .ok (.ireturn, 1) := by decide +kernel
theorem dX7_ownerOfThing_0 : decode cX7_ownerOfThing 0 = .ok (.aload_n 0, 1) := by decide +kernel
theorem dX7_ownerOfThing_1 : decode cX7_ownerOfThing 1 = .ok (.aload_n 1, 1) := by decide +kernel
theorem dX7_ownerOfThing_2 : decode cX7_ownerOfThing 2 = .ok (.iload_n 2, 1) := by decide +kernel
theorem dX7_ownerOfThing_3 : decode cX7_ownerOfThing 3 = .ok (.invokevirtual 94, 3) := by decide +kernel
theorem dX7_ownerOfThing_6 : decode cX7_ownerOfThing 6 = .ok (.aload_n 0, 1) := by decide +kernel
theorem dX7_ownerOfThing_7 : decode cX7_ownerOfThing 7 = .ok (.getfield 15, 3) := by decide +kernel
theorem dX7_ownerOfThing_10 : decode cX7_ownerOfThing 10 = .ok (.iload_n 2, 1) := by decide +kernel
theorem dX7_ownerOfThing_11 : decode cX7_ownerOfThing 11 = .ok (.iaload, 1) := by decide +kernel
theorem dX7_ownerOfThing_12 : decode cX7_ownerOfThing 12 = .ok (.aload_n 0, 1) := by decide +kernel
theorem dX7_ownerOfThing_13 : decode cX7_ownerOfThing 13 = .ok (.getfield 98, 3) := by decide +kernel
theorem dX7_ownerOfThing_16 : decode cX7_ownerOfThing 16 = .ok (.invokestatic 101, 3) := by decide +kernel
theorem dX7_ownerOfThing_19 : decode cX7_ownerOfThing 19 = .ok (.ireturn, 1) := by decide +kernel
theorem dX7_canPaint_0 : decode cX7_canPaint 0 = .ok (.aload_n 1, 1) := by decide +kernel
theorem dX7_canPaint_1 : decode cX7_canPaint 1 = .ok (.aload_n 0, 1) := by decide +kernel
theorem dX7_canPaint_2 : decode cX7_canPaint 2 = .ok (.getfield 21, 3) := by decide +kernel
theorem dX7_canPaint_5 : decode cX7_canPaint 5 = .ok (.iload_n 2, 1) := by decide +kernel
theorem dX7_canPaint_6 : decode cX7_canPaint 6 = .ok (.iaload, 1) := by decide +kernel
theorem dX7_canPaint_7 : decode cX7_canPaint 7 = .ok (.invokevirtual 105, 3) := by decide +kernel
theorem dX7_canPaint_10 : decode cX7_canPaint 10 = .ok (.ifCond .ne 20, 3) := by decide +kernel
theorem dX7_canPaint_13 : decode cX7_canPaint 13 = .ok (.aload_n 1, 1) := by decide +kernel
theorem dX7_canPaint_14 : decode cX7_canPaint 14 = .ok (.getfield 108, 3) := by decide +kernel
theorem dX7_canPaint_17 : decode cX7_canPaint 17 = .ok (.iload_n 3, 1) := by decide +kernel
theorem dX7_canPaint_18 : decode cX7_canPaint 18 = .ok (.iaload, 1) := by decide +kernel
theorem dX7_canPaint_19 : decode cX7_canPaint 19 = .ok (.aload_n 0, 1) := by decide +kernel
theorem dX7_canPaint_20 : decode cX7_canPaint 20 = .ok (.getfield 111, 3) := by decide +kernel
theorem dX7_canPaint_23 : decode cX7_canPaint 23 = .ok (.if_icmp .lt 7, 3) := by decide +kernel
theorem dX7_canPaint_26 : decode cX7_canPaint 26 = .ok (.iconst 1, 1) := by decide +kernel
theorem dX7_canPaint_27 : decode cX7_canPaint 27 = .ok (.goto 4, 3) := by decide +kernel
theorem dX7_canPaint_30 : decode cX7_canPaint 30 = .ok (.iconst 0, 1) := by decide +kernel
theorem dX7_canPaint_31 : decode cX7_canPaint 31 = .ok (.ireturn, 1) := by decide +kernel
theorem dX7_putCoat_0 : decode cX7_putCoat 0 = .ok (.aload_n 1, 1) := by decide +kernel
theorem dX7_putCoat_1 : decode cX7_putCoat 1 = .ok (.getfield 75, 3) := by decide +kernel
theorem dX7_putCoat_4 : decode cX7_putCoat 4 = .ok (.iload_n 2, 1) := by decide +kernel
theorem dX7_putCoat_5 : decode cX7_putCoat 5 = .ok (.aload_n 1, 1) := by decide +kernel
theorem dX7_putCoat_6 : decode cX7_putCoat 6 = .ok (.getfield 75, 3) := by decide +kernel
theorem dX7_putCoat_9 : decode cX7_putCoat 9 = .ok (.iload_n 2, 1) := by decide +kernel
theorem dX7_putCoat_10 : decode cX7_putCoat 10 = .ok (.laload, 1) := by decide +kernel
theorem dX7_putCoat_11 : decode cX7_putCoat 11 = .ok (.iload_n 3, 1) := by decide +kernel
theorem dX7_putCoat_12 : decode cX7_putCoat 12 = .ok (.aload_n 1, 1) := by decide +kernel
theorem dX7_putCoat_13 : decode cX7_putCoat 13 = .ok (.getfield 79, 3) := by decide +kernel
theorem dX7_putCoat_16 : decode cX7_putCoat 16 = .ok (.invokestatic 114, 3) := by decide +kernel
theorem dX7_putCoat_19 : decode cX7_putCoat 19 = .ok (.lastore, 1) := by decide +kernel
theorem dX7_putCoat_20 : decode cX7_putCoat 20 = .ok (.aload_n 1, 1) := by decide +kernel
theorem dX7_putCoat_21 : decode cX7_putCoat 21 = .ok (.getfield 108, 3) := by decide +kernel
theorem dX7_putCoat_24 : decode cX7_putCoat 24 = .ok (.iload_n 3, 1) := by decide +kernel
theorem dX7_putCoat_25 : decode cX7_putCoat 25 = .ok (.dup2, 1) := by decide +kernel
theorem dX7_putCoat_26 : decode cX7_putCoat 26 = .ok (.iaload, 1) := by decide +kernel
theorem dX7_putCoat_27 : decode cX7_putCoat 27 = .ok (.aload_n 0, 1) := by decide +kernel
theorem dX7_putCoat_28 : decode cX7_putCoat 28 = .ok (.getfield 111, 3) := by decide +kernel
theorem dX7_putCoat_31 : decode cX7_putCoat 31 = .ok (.isub, 1) := by decide +kernel
theorem dX7_putCoat_32 : decode cX7_putCoat 32 = .ok (.iastore, 1) := by decide +kernel
theorem dX7_putCoat_33 : decode cX7_putCoat 33 = .ok (.return_, 1) := by decide +kernel
theorem dX7_strip_0 : decode cX7_strip 0 = .ok (.iconst 0, 1) := by decide +kernel
theorem dX7_strip_1 : decode cX7_strip 1 = .ok (.istore_n 3, 1) := by decide +kernel
theorem dX7_strip_2 : decode cX7_strip 2 = .ok (.aload_n 0, 1) := by decide +kernel
theorem dX7_strip_3 : decode cX7_strip 3 = .ok (.getfield 9, 3) := by decide +kernel
theorem dX7_strip_6 : decode cX7_strip 6 = .ok (.iload_n 2, 1) := by decide +kernel
theorem dX7_strip_7 : decode cX7_strip 7 = .ok (.iaload, 1) := by decide +kernel
theorem dX7_strip_8 : decode cX7_strip 8 = .ok (.istore 4, 2) := by decide +kernel
theorem dX7_strip_10 : decode cX7_strip 10 = .ok (.iload 4, 2) := by decide +kernel
theorem dX7_strip_12 : decode cX7_strip 12 = .ok (.istore 5, 2) := by decide +kernel
theorem dX7_strip_14 : decode cX7_strip 14 = .ok (.iload 5, 2) := by decide +kernel
theorem dX7_strip_16 : decode cX7_strip 16 = .ok (.iload 4, 2) := by decide +kernel
theorem dX7_strip_18 : decode cX7_strip 18 = .ok (.aload_n 0, 1) := by decide +kernel
theorem dX7_strip_19 : decode cX7_strip 19 = .ok (.getfield 15, 3) := by decide +kernel
theorem dX7_strip_22 : decode cX7_strip 22 = .ok (.iload_n 2, 1) := by decide +kernel
theorem dX7_strip_23 : decode cX7_strip 23 = .ok (.iaload, 1) := by decide +kernel
theorem dX7_strip_24 : decode cX7_strip 24 = .ok (.iadd, 1) := by decide +kernel
theorem dX7_strip_25 : decode cX7_strip 25 = .ok (.if_icmp .ge 30, 3) := by decide +kernel
theorem dX7_strip_28 : decode cX7_strip 28 = .ok (.iload_n 3, 1) := by decide +kernel
theorem dX7_strip_29 : decode cX7_strip 29 = .ok (.aload_n 1, 1) := by decide +kernel
theorem dX7_strip_30 : decode cX7_strip 30 = .ok (.getfield 75, 3) := by decide +kernel
theorem dX7_strip_33 : decode cX7_strip 33 = .ok (.iload 5, 2) := by decide +kernel
theorem dX7_strip_35 : decode cX7_strip 35 = .ok (.laload, 1) := by decide +kernel
theorem dX7_strip_36 : decode cX7_strip 36 = .ok (.invokestatic 118, 3) := by decide +kernel
theorem dX7_strip_39 : decode cX7_strip 39 = .ok (.iadd, 1) := by decide +kernel
theorem dX7_strip_40 : decode cX7_strip 40 = .ok (.istore_n 3, 1) := by decide +kernel
theorem dX7_strip_41 : decode cX7_strip 41 = .ok (.aload_n 1, 1) := by decide +kernel
theorem dX7_strip_42 : decode cX7_strip 42 = .ok (.getfield 75, 3) := by decide +kernel
theorem dX7_strip_45 : decode cX7_strip 45 = .ok (.iload 5, 2) := by decide +kernel
theorem dX7_strip_47 : decode cX7_strip 47 = .ok (.lconst 0, 1) := by decide +kernel
theorem dX7_strip_48 : decode cX7_strip 48 = .ok (.lastore, 1) := by decide +kernel
theorem dX7_strip_49 : decode cX7_strip 49 = .ok (.iinc 5 1, 3) := by decide +kernel
theorem dX7_strip_52 : decode cX7_strip 52 = .ok (.goto (-38), 3) := by decide +kernel
theorem dX7_strip_55 : decode cX7_strip 55 = .ok (.iload_n 3, 1) := by decide +kernel
theorem dX7_strip_56 : decode cX7_strip 56 = .ok (.ireturn, 1) := by decide +kernel
theorem dX7_isOfOneColour_0 : decode cX7_isOfOneColour 0 = .ok (.iconst (-1), 1) := by decide +kernel
theorem dX7_isOfOneColour_1 : decode cX7_isOfOneColour 1 = .ok (.istore_n 2, 1) := by decide +kernel
theorem dX7_isOfOneColour_2 : decode cX7_isOfOneColour 2 = .ok (.iconst 0, 1) := by decide +kernel
theorem dX7_isOfOneColour_3 : decode cX7_isOfOneColour 3 = .ok (.istore_n 3, 1) := by decide +kernel
theorem dX7_isOfOneColour_4 : decode cX7_isOfOneColour 4 = .ok (.iload_n 3, 1) := by decide +kernel
theorem dX7_isOfOneColour_5 : decode cX7_isOfOneColour 5 = .ok (.aload_n 0, 1) := by decide +kernel
theorem dX7_isOfOneColour_6 : decode cX7_isOfOneColour 6 = .ok (.getfield 121, 3) := by decide +kernel
theorem dX7_isOfOneColour_9 : decode cX7_isOfOneColour 9 = .ok (.if_icmp .ge 65, 3) := by decide +kernel
theorem dX7_isOfOneColour_12 : decode cX7_isOfOneColour 12 = .ok (.aload_n 1, 1) := by decide +kernel
theorem dX7_isOfOneColour_13 : decode cX7_isOfOneColour 13 = .ok (.aload_n 0, 1) := by decide +kernel
theorem dX7_isOfOneColour_14 : decode cX7_isOfOneColour 14 = .ok (.getfield 21, 3) := by decide +kernel
theorem dX7_isOfOneColour_17 : decode cX7_isOfOneColour 17 = .ok (.iload_n 3, 1) := by decide +kernel
theorem dX7_isOfOneColour_18 : decode cX7_isOfOneColour 18 = .ok (.iaload, 1) := by decide +kernel
theorem dX7_isOfOneColour_19 : decode cX7_isOfOneColour 19 = .ok (.invokevirtual 105, 3) := by decide +kernel
theorem dX7_isOfOneColour_22 : decode cX7_isOfOneColour 22 = .ok (.ifCond .ne 46, 3) := by decide +kernel
theorem dX7_isOfOneColour_25 : decode cX7_isOfOneColour 25 = .ok (.aload_n 1, 1) := by decide +kernel
theorem dX7_isOfOneColour_26 : decode cX7_isOfOneColour 26 = .ok (.getfield 75, 3) := by decide +kernel
theorem dX7_isOfOneColour_29 : decode cX7_isOfOneColour 29 = .ok (.iload_n 3, 1) := by decide +kernel
theorem dX7_isOfOneColour_30 : decode cX7_isOfOneColour 30 = .ok (.laload, 1) := by decide +kernel
theorem dX7_isOfOneColour_31 : decode cX7_isOfOneColour 31 = .ok (.invokestatic 68, 3) := by decide +kernel
theorem dX7_isOfOneColour_34 : decode cX7_isOfOneColour 34 = .ok (.istore 4, 2) := by decide +kernel
theorem dX7_isOfOneColour_36 : decode cX7_isOfOneColour 36 = .ok (.iload 4, 2) := by decide +kernel
theorem dX7_isOfOneColour_38 : decode cX7_isOfOneColour 38 = .ok (.iconst (-1), 1) := by decide +kernel
theorem dX7_isOfOneColour_39 : decode cX7_isOfOneColour 39 = .ok (.if_icmp .eq 19, 3) := by decide +kernel
theorem dX7_isOfOneColour_42 : decode cX7_isOfOneColour 42 = .ok (.iload_n 2, 1) := by decide +kernel
theorem dX7_isOfOneColour_43 : decode cX7_isOfOneColour 43 = .ok (.iconst (-1), 1) := by decide +kernel
theorem dX7_isOfOneColour_44 : decode cX7_isOfOneColour 44 = .ok (.if_icmp .eq 16, 3) := by decide +kernel
theorem dX7_isOfOneColour_47 : decode cX7_isOfOneColour 47 = .ok (.iload_n 2, 1) := by decide +kernel
theorem dX7_isOfOneColour_48 : decode cX7_isOfOneColour 48 = .ok (.aload_n 0, 1) := by decide +kernel
theorem dX7_isOfOneColour_49 : decode cX7_isOfOneColour 49 = .ok (.getfield 24, 3) := by decide +kernel
theorem dX7_isOfOneColour_52 : decode cX7_isOfOneColour 52 = .ok (.iload 4, 2) := by decide +kernel
theorem dX7_isOfOneColour_54 : decode cX7_isOfOneColour 54 = .ok (.iaload, 1) := by decide +kernel
theorem dX7_isOfOneColour_55 : decode cX7_isOfOneColour 55 = .ok (.if_icmp .eq 5, 3) := by decide +kernel
theorem dX7_isOfOneColour_58 : decode cX7_isOfOneColour 58 = .ok (.iconst 0, 1) := by decide +kernel
theorem dX7_isOfOneColour_59 : decode cX7_isOfOneColour 59 = .ok (.ireturn, 1) := by decide +kernel
theorem dX7_isOfOneColour_60 : decode cX7_isOfOneColour 60 = .ok (.aload_n 0, 1) := by decide +kernel
theorem dX7_isOfOneColour_61 : decode cX7_isOfOneColour 61 = .ok (.getfield 24, 3) := by decide +kernel
theorem dX7_isOfOneColour_64 : decode cX7_isOfOneColour 64 = .ok (.iload 4, 2) := by decide +kernel
theorem dX7_isOfOneColour_66 : decode cX7_isOfOneColour 66 = .ok (.iaload, 1) := by decide +kernel
theorem dX7_isOfOneColour_67 : decode cX7_isOfOneColour 67 = .ok (.istore_n 2, 1) := by decide +kernel
theorem dX7_isOfOneColour_68 : decode cX7_isOfOneColour 68 = .ok (.iinc 3 1, 3) := by decide +kernel
theorem dX7_isOfOneColour_71 : decode cX7_isOfOneColour 71 = .ok (.goto (-67), 3) := by decide +kernel
theorem dX7_isOfOneColour_74 : decode cX7_isOfOneColour 74 = .ok (.iconst 1, 1) := by decide +kernel
theorem dX7_isOfOneColour_75 : decode cX7_isOfOneColour 75 = .ok (.ireturn, 1) := by decide +kernel
theorem dX8_init_0 : decode cX8_init 0 = .ok (.aload_n 0, 1) := by decide +kernel
theorem dX8_init_1 : decode cX8_init 1 = .ok (.invokespecial 3, 3) := by decide +kernel
theorem dX8_init_4 : decode cX8_init 4 = .ok (.aload_n 0, 1) := by decide +kernel
theorem dX8_init_5 : decode cX8_init 5 = .ok (.new 9, 3) := by decide +kernel
theorem dX8_init_8 : decode cX8_init 8 = .ok (.dup, 1) := by decide +kernel
theorem dX8_init_9 : decode cX8_init 9 = .ok (.invokespecial 11, 3) := by decide +kernel
theorem dX8_init_12 : decode cX8_init 12 = .ok (.putfield 12, 3) := by decide +kernel
theorem dX8_init_15 : decode cX8_init 15 = .ok (.aload_n 0, 1) := by decide +kernel
theorem dX8_init_16 : decode cX8_init 16 = .ok (.aload_n 1, 1) := by decide +kernel
theorem dX8_init_17 : decode cX8_init 17 = .ok (.putfield 18, 3) := by decide +kernel
theorem dX8_init_20 : decode cX8_init 20 = .ok (.return_, 1) := by decide +kernel
theorem dX8_readAll_0 : decode cX8_readAll 0 = .ok (.iconst 0, 1) := by decide +kernel
theorem dX8_readAll_1 : decode cX8_readAll 1 = .ok (.istore_n 1, 1) := by decide +kernel
theorem dX8_readAll_2 : decode cX8_readAll 2 = .ok (.iload_n 1, 1) := by decide +kernel
theorem dX8_readAll_3 : decode cX8_readAll 3 = .ok (.bipush 40, 2) := by decide +kernel
theorem dX8_readAll_5 : decode cX8_readAll 5 = .ok (.if_icmp .gt 142, 3) := by decide +kernel
theorem dX8_readAll_8 : decode cX8_readAll 8 = .ok (.aload_n 0, 1) := by decide +kernel
theorem dX8_readAll_9 : decode cX8_readAll 9 = .ok (.getfield 18, 3) := by decide +kernel
theorem dX8_readAll_12 : decode cX8_readAll 12 = .ok (.invokevirtual 22, 3) := by decide +kernel
theorem dX8_readAll_15 : decode cX8_readAll 15 = .ok (.istore_n 2, 1) := by decide +kernel
theorem dX8_readAll_16 : decode cX8_readAll 16 = .ok (.iload_n 2, 1) := by decide +kernel
theorem dX8_readAll_17 : decode cX8_readAll 17 = .ok (.invokestatic 28, 3) := by decide +kernel
theorem dX8_readAll_20 : decode cX8_readAll 20 = .ok (.ifCond .ne 12, 3) := by decide +kernel
theorem dX8_readAll_23 : decode cX8_readAll 23 = .ok (.aload_n 0, 1) := by decide +kernel
theorem dX8_readAll_24 : decode cX8_readAll 24 = .ok (.getfield 18, 3) := by decide +kernel
theorem dX8_readAll_27 : decode cX8_readAll 27 = .ok (.iconst 0, 1) := by decide +kernel
theorem dX8_readAll_28 : decode cX8_readAll 28 = .ok (.invokevirtual 32, 3) := by decide +kernel
theorem dX8_readAll_31 : decode cX8_readAll 31 = .ok (.ireturn, 1) := by decide +kernel
theorem dX8_readAll_32 : decode cX8_readAll 32 = .ok (.iload_n 1, 1) := by decide +kernel
theorem dX8_readAll_33 : decode cX8_readAll 33 = .ok (.bipush 40, 2) := by decide +kernel
theorem dX8_readAll_35 : decode cX8_readAll 35 = .ok (.if_icmp .eq 34, 3) := by decide +kernel
theorem dX8_readAll_38 : decode cX8_readAll 38 = .ok (.iload_n 1, 1) := by decide +kernel
theorem dX8_readAll_39 : decode cX8_readAll 39 = .ok (.ifCond .ne 7, 3) := by decide +kernel
theorem dX8_readAll_42 : decode cX8_readAll 42 = .ok (.iconst 1, 1) := by decide +kernel
theorem dX8_readAll_43 : decode cX8_readAll 43 = .ok (.goto 4, 3) := by decide +kernel
theorem dX8_readAll_46 : decode cX8_readAll 46 = .ok (.iconst 0, 1) := by decide +kernel
theorem dX8_readAll_47 : decode cX8_readAll 47 = .ok (.iload_n 2, 1) := by decide +kernel
theorem dX8_readAll_48 : decode cX8_readAll 48 = .ok (.bipush 13, 2) := by decide +kernel
theorem dX8_readAll_50 : decode cX8_readAll 50 = .ok (.if_icmp .ne 7, 3) := by decide +kernel
theorem dX8_readAll_53 : decode cX8_readAll 53 = .ok (.iconst 1, 1) := by decide +kernel
theorem dX8_readAll_54 : decode cX8_readAll 54 = .ok (.goto 4, 3) := by decide +kernel
theorem dX8_readAll_57 : decode cX8_readAll 57 = .ok (.iconst 0, 1) := by decide +kernel
theorem dX8_readAll_58 : decode cX8_readAll 58 = .ok (.if_icmp .ne 11, 3) := by decide +kernel
theorem dX8_readAll_61 : decode cX8_readAll 61 = .ok (.aload_n 0, 1) := by decide +kernel
theorem dX8_readAll_62 : decode cX8_readAll 62 = .ok (.iload_n 2, 1) := by decide +kernel
theorem dX8_readAll_63 : decode cX8_readAll 63 = .ok (.invokevirtual 35, 3) := by decide +kernel
theorem dX8_readAll_66 : decode cX8_readAll 66 = .ok (.ifCond .eq 12, 3) := by decide +kernel
theorem dX8_readAll_69 : decode cX8_readAll 69 = .ok (.aload_n 0, 1) := by decide +kernel
theorem dX8_readAll_70 : decode cX8_readAll 70 = .ok (.getfield 18, 3) := by decide +kernel
theorem dX8_readAll_73 : decode cX8_readAll 73 = .ok (.iconst 4, 1) := by decide +kernel
theorem dX8_readAll_74 : decode cX8_readAll 74 = .ok (.invokevirtual 32, 3) := by decide +kernel
theorem dX8_readAll_77 : decode cX8_readAll 77 = .ok (.ireturn, 1) := by decide +kernel
theorem dX8_readAll_78 : decode cX8_readAll 78 = .ok (.aload_n 0, 1) := by decide +kernel
theorem dX8_readAll_79 : decode cX8_readAll 79 = .ok (.getfield 18, 3) := by decide +kernel
theorem dX8_readAll_82 : decode cX8_readAll 82 = .ok (.invokevirtual 38, 3) := by decide +kernel
theorem dX8_readAll_85 : decode cX8_readAll 85 = .ok (.aload_n 0, 1) := by decide +kernel
theorem dX8_readAll_86 : decode cX8_readAll 86 = .ok (.iload_n 2, 1) := by decide +kernel
theorem dX8_readAll_87 : decode cX8_readAll 87 = .ok (.invokevirtual 41, 3) := by decide +kernel
theorem dX8_readAll_90 : decode cX8_readAll 90 = .ok (.ifCond .ne 5, 3) := by decide +kernel
theorem dX8_readAll_93 : decode cX8_readAll 93 = .ok (.iconst 0, 1) := by decide +kernel
theorem dX8_readAll_94 : decode cX8_readAll 94 = .ok (.ireturn, 1) := by decide +kernel
theorem dX8_readAll_95 : decode cX8_readAll 95 = .ok (.aload_n 0, 1) := by decide +kernel
theorem dX8_readAll_96 : decode cX8_readAll 96 = .ok (.getfield 18, 3) := by decide +kernel
theorem dX8_readAll_99 : decode cX8_readAll 99 = .ok (.invokevirtual 22, 3) := by decide +kernel
theorem dX8_readAll_102 : decode cX8_readAll 102 = .ok (.bipush 36, 2) := by decide +kernel
theorem dX8_readAll_104 : decode cX8_readAll 104 = .ok (.if_icmp .ne 9, 3) := by decide +kernel
theorem dX8_readAll_107 : decode cX8_readAll 107 = .ok (.aload_n 0, 1) := by decide +kernel
theorem dX8_readAll_108 : decode cX8_readAll 108 = .ok (.invokevirtual 44, 3) := by decide +kernel
theorem dX8_readAll_111 : decode cX8_readAll 111 = .ok (.iconst 1, 1) := by decide +kernel
theorem dX8_readAll_112 : decode cX8_readAll 112 = .ok (.ireturn, 1) := by decide +kernel
theorem dX8_readAll_113 : decode cX8_readAll 113 = .ok (.aload_n 0, 1) := by decide +kernel
theorem dX8_readAll_114 : decode cX8_readAll 114 = .ok (.getfield 18, 3) := by decide +kernel
theorem dX8_readAll_117 : decode cX8_readAll 117 = .ok (.invokevirtual 22, 3) := by decide +kernel
theorem dX8_readAll_120 : decode cX8_readAll 120 = .ok (.bipush 32, 2) := by decide +kernel
theorem dX8_readAll_122 : decode cX8_readAll 122 = .ok (.if_icmp .eq 12, 3) := by decide +kernel
theorem dX8_readAll_125 : decode cX8_readAll 125 = .ok (.aload_n 0, 1) := by decide +kernel
theorem dX8_readAll_126 : decode cX8_readAll 126 = .ok (.getfield 18, 3) := by decide +kernel
theorem dX8_readAll_129 : decode cX8_readAll 129 = .ok (.iconst 0, 1) := by decide +kernel
theorem dX8_readAll_130 : decode cX8_readAll 130 = .ok (.invokevirtual 32, 3) := by decide +kernel
theorem dX8_readAll_133 : decode cX8_readAll 133 = .ok (.ireturn, 1) := by decide +kernel
theorem dX8_readAll_134 : decode cX8_readAll 134 = .ok (.aload_n 0, 1) := by decide +kernel
theorem dX8_readAll_135 : decode cX8_readAll 135 = .ok (.getfield 18, 3) := by decide +kernel
theorem dX8_readAll_138 : decode cX8_readAll 138 = .ok (.invokevirtual 38, 3) := by decide +kernel
theorem dX8_readAll_141 : decode cX8_readAll 141 = .ok (.iinc 1 1, 3) := by decide +kernel
theorem dX8_readAll_144 : decode cX8_readAll 144 = .ok (.goto (-142), 3) := by decide +kernel
theorem dX8_readAll_147 : decode cX8_readAll 147 = .ok (.iconst 0, 1) := by decide +kernel
theorem dX8_readAll_148 : decode cX8_readAll 148 = .ok (.ireturn, 1) := by decide +kernel
theorem dX8_beginsClause_0 : decode cX8_beginsClause 0 = .ok (.iload_n 0, 1) := by decide +kernel
theorem dX8_beginsClause_1 : decode cX8_beginsClause 1 = .ok (.tableswitch 85 0 16 #[83, 85, 83, 85, 85, 85, 85, 85, 85, 85, 85, 85, 83, 83, 83, 83, 83], 83) := by decide +kernel
theorem dX8_beginsClause_84 : decode cX8_beginsClause 84 = .ok (.iconst 1, 1) := by decide +kernel
theorem dX8_beginsClause_85 : decode cX8_beginsClause 85 = .ok (.ireturn, 1) := by decide +kernel
theorem dX8_beginsClause_86 : decode cX8_beginsClause 86 = .ok (.iconst 0, 1) := by decide +kernel
theorem dX8_beginsClause_87 : decode cX8_beginsClause 87 = .ok (.ireturn, 1) := by decide +kernel
theorem dX8_isFullOf_0 : decode cX8_isFullOf 0 = .ok (.iload_n 1, 1) := by decide +kernel
theorem dX8_isFullOf_1 : decode cX8_isFullOf 1 = .ok (.lookupswitch 102 #[(0, 60), (2, 43), (12, 77), (16, 94)], 43) := by decide +kernel
theorem dX8_isFullOf_44 : decode cX8_isFullOf 44 = .ok (.aload_n 0, 1) := by decide +kernel
theorem dX8_isFullOf_45 : decode cX8_isFullOf 45 = .ok (.getfield 12, 3) := by decide +kernel
theorem dX8_isFullOf_48 : decode cX8_isFullOf 48 = .ok (.getfield 47, 3) := by decide +kernel
theorem dX8_isFullOf_51 : decode cX8_isFullOf 51 = .ok (.iconst 4, 1) := by decide +kernel
theorem dX8_isFullOf_52 : decode cX8_isFullOf 52 = .ok (.if_icmp .lt 7, 3) := by decide +kernel
theorem dX8_isFullOf_55 : decode cX8_isFullOf 55 = .ok (.iconst 1, 1) := by decide +kernel
theorem dX8_isFullOf_56 : decode cX8_isFullOf 56 = .ok (.goto 4, 3) := by decide +kernel
theorem dX8_isFullOf_59 : decode cX8_isFullOf 59 = .ok (.iconst 0, 1) := by decide +kernel
theorem dX8_isFullOf_60 : decode cX8_isFullOf 60 = .ok (.ireturn, 1) := by decide +kernel
theorem dX8_isFullOf_61 : decode cX8_isFullOf 61 = .ok (.aload_n 0, 1) := by decide +kernel
theorem dX8_isFullOf_62 : decode cX8_isFullOf 62 = .ok (.getfield 12, 3) := by decide +kernel
theorem dX8_isFullOf_65 : decode cX8_isFullOf 65 = .ok (.getfield 51, 3) := by decide +kernel
theorem dX8_isFullOf_68 : decode cX8_isFullOf 68 = .ok (.iconst 4, 1) := by decide +kernel
theorem dX8_isFullOf_69 : decode cX8_isFullOf 69 = .ok (.if_icmp .lt 7, 3) := by decide +kernel
theorem dX8_isFullOf_72 : decode cX8_isFullOf 72 = .ok (.iconst 1, 1) := by decide +kernel
theorem dX8_isFullOf_73 : decode cX8_isFullOf 73 = .ok (.goto 4, 3) := by decide +kernel
theorem dX8_isFullOf_76 : decode cX8_isFullOf 76 = .ok (.iconst 0, 1) := by decide +kernel
theorem dX8_isFullOf_77 : decode cX8_isFullOf 77 = .ok (.ireturn, 1) := by decide +kernel
theorem dX8_isFullOf_78 : decode cX8_isFullOf 78 = .ok (.aload_n 0, 1) := by decide +kernel
theorem dX8_isFullOf_79 : decode cX8_isFullOf 79 = .ok (.getfield 12, 3) := by decide +kernel
theorem dX8_isFullOf_82 : decode cX8_isFullOf 82 = .ok (.getfield 54, 3) := by decide +kernel
theorem dX8_isFullOf_85 : decode cX8_isFullOf 85 = .ok (.iconst 5, 1) := by decide +kernel
theorem dX8_isFullOf_86 : decode cX8_isFullOf 86 = .ok (.if_icmp .lt 7, 3) := by decide +kernel
theorem dX8_isFullOf_89 : decode cX8_isFullOf 89 = .ok (.iconst 1, 1) := by decide +kernel
theorem dX8_isFullOf_90 : decode cX8_isFullOf 90 = .ok (.goto 4, 3) := by decide +kernel
theorem dX8_isFullOf_93 : decode cX8_isFullOf 93 = .ok (.iconst 0, 1) := by decide +kernel
theorem dX8_isFullOf_94 : decode cX8_isFullOf 94 = .ok (.ireturn, 1) := by decide +kernel
theorem dX8_isFullOf_95 : decode cX8_isFullOf 95 = .ok (.aload_n 0, 1) := by decide +kernel
theorem dX8_isFullOf_96 : decode cX8_isFullOf 96 = .ok (.getfield 12, 3) := by decide +kernel
theorem dX8_isFullOf_99 : decode cX8_isFullOf 99 = .ok (.getfield 57, 3) := by decide +kernel
theorem dX8_isFullOf_102 : decode cX8_isFullOf 102 = .ok (.ireturn, 1) := by decide +kernel
theorem dX8_isFullOf_103 : decode cX8_isFullOf 103 = .ok (.iconst 0, 1) := by decide +kernel
theorem dX8_isFullOf_104 : decode cX8_isFullOf 104 = .ok (.ireturn, 1) := by decide +kernel
theorem dX8_readClause_0 : decode cX8_readClause 0 = .ok (.iload_n 1, 1) := by decide +kernel
theorem dX8_readClause_1 : decode cX8_readClause 1 = .ok (.tableswitch 109 0 15 #[89, 109, 84, 109, 109, 109, 109, 109, 109, 109, 109, 109, 104, 79, 94, 99], 79) := by decide +kernel
theorem dX8_readClause_80 : decode cX8_readClause 80 = .ok (.aload_n 0, 1) := by decide +kernel
theorem dX8_readClause_81 : decode cX8_readClause 81 = .ok (.invokevirtual 61, 3) := by decide +kernel
theorem dX8_readClause_84 : decode cX8_readClause 84 = .ok (.ireturn, 1) := by decide +kernel
theorem dX8_readClause_85 : decode cX8_readClause 85 = .ok (.aload_n 0, 1) := by decide +kernel
theorem dX8_readClause_86 : decode cX8_readClause 86 = .ok (.invokevirtual 65, 3) := by decide +kernel
theorem dX8_readClause_89 : decode cX8_readClause 89 = .ok (.ireturn, 1) := by decide +kernel
theorem dX8_readClause_90 : decode cX8_readClause 90 = .ok (.aload_n 0, 1) := by decide +kernel
theorem dX8_readClause_91 : decode cX8_readClause 91 = .ok (.invokevirtual 68, 3) := by decide +kernel
theorem dX8_readClause_94 : decode cX8_readClause 94 = .ok (.ireturn, 1) := by decide +kernel
theorem dX8_readClause_95 : decode cX8_readClause 95 = .ok (.aload_n 0, 1) := by decide +kernel
theorem dX8_readClause_96 : decode cX8_readClause 96 = .ok (.invokevirtual 71, 3) := by decide +kernel
theorem dX8_readClause_99 : decode cX8_readClause 99 = .ok (.ireturn, 1) := by decide +kernel
theorem dX8_readClause_100 : decode cX8_readClause 100 = .ok (.aload_n 0, 1) := by decide +kernel
theorem dX8_readClause_101 : decode cX8_readClause 101 = .ok (.invokevirtual 74, 3) := by decide +kernel
theorem dX8_readClause_104 : decode cX8_readClause 104 = .ok (.ireturn, 1) := by decide +kernel
theorem dX8_readClause_105 : decode cX8_readClause 105 = .ok (.aload_n 0, 1) := by decide +kernel
theorem dX8_readClause_106 : decode cX8_readClause 106 = .ok (.invokevirtual 77, 3) := by decide +kernel
theorem dX8_readClause_109 : decode cX8_readClause 109 = .ok (.ireturn, 1) := by decide +kernel
theorem dX8_readClause_110 : decode cX8_readClause 110 = .ok (.aload_n 0, 1) := by decide +kernel
theorem dX8_readClause_111 : decode cX8_readClause 111 = .ok (.getfield 12, 3) := by decide +kernel
theorem dX8_readClause_114 : decode cX8_readClause 114 = .ok (.iconst 1, 1) := by decide +kernel
theorem dX8_readClause_115 : decode cX8_readClause 115 = .ok (.putfield 57, 3) := by decide +kernel
theorem dX8_readClause_118 : decode cX8_readClause 118 = .ok (.iconst 1, 1) := by decide +kernel
theorem dX8_readClause_119 : decode cX8_readClause 119 = .ok (.ireturn, 1) := by decide +kernel
theorem dX8_readHead_0 : decode cX8_readHead 0 = .ok (.aload_n 0, 1) := by decide +kernel
theorem dX8_readHead_1 : decode cX8_readHead 1 = .ok (.getfield 12, 3) := by decide +kernel
theorem dX8_readHead_4 : decode cX8_readHead 4 = .ok (.aload_n 0, 1) := by decide +kernel
theorem dX8_readHead_5 : decode cX8_readHead 5 = .ok (.getfield 18, 3) := by decide +kernel
theorem dX8_readHead_8 : decode cX8_readHead 8 = .ok (.iconst 1, 1) := by decide +kernel
theorem dX8_readHead_9 : decode cX8_readHead 9 = .ok (.bipush 9, 2) := by decide +kernel
theorem dX8_readHead_11 : decode cX8_readHead 11 = .ok (.invokevirtual 80, 3) := by decide +kernel
theorem dX8_readHead_14 : decode cX8_readHead 14 = .ok (.putfield 84, 3) := by decide +kernel
theorem dX8_readHead_17 : decode cX8_readHead 17 = .ok (.aload_n 0, 1) := by decide +kernel
theorem dX8_readHead_18 : decode cX8_readHead 18 = .ok (.getfield 12, 3) := by decide +kernel
theorem dX8_readHead_21 : decode cX8_readHead 21 = .ok (.getfield 84, 3) := by decide +kernel
theorem dX8_readHead_24 : decode cX8_readHead 24 = .ok (.iconst (-1), 1) := by decide +kernel
theorem dX8_readHead_25 : decode cX8_readHead 25 = .ok (.if_icmp .ne 5, 3) := by decide +kernel
theorem dX8_readHead_28 : decode cX8_readHead 28 = .ok (.iconst 0, 1) := by decide +kernel
theorem dX8_readHead_29 : decode cX8_readHead 29 = .ok (.ireturn, 1) := by decide +kernel
theorem dX8_readHead_30 : decode cX8_readHead 30 = .ok (.aload_n 0, 1) := by decide +kernel
theorem dX8_readHead_31 : decode cX8_readHead 31 = .ok (.getfield 12, 3) := by decide +kernel
theorem dX8_readHead_34 : decode cX8_readHead 34 = .ok (.aload_n 0, 1) := by decide +kernel
theorem dX8_readHead_35 : decode cX8_readHead 35 = .ok (.getfield 18, 3) := by decide +kernel
theorem dX8_readHead_38 : decode cX8_readHead 38 = .ok (.iconst 1, 1) := by decide +kernel
theorem dX8_readHead_39 : decode cX8_readHead 39 = .ok (.bipush 100, 2) := by decide +kernel
theorem dX8_readHead_41 : decode cX8_readHead 41 = .ok (.invokevirtual 80, 3) := by decide +kernel
theorem dX8_readHead_44 : decode cX8_readHead 44 = .ok (.putfield 87, 3) := by decide +kernel
theorem dX8_readHead_47 : decode cX8_readHead 47 = .ok (.aload_n 0, 1) := by decide +kernel
theorem dX8_readHead_48 : decode cX8_readHead 48 = .ok (.getfield 12, 3) := by decide +kernel
theorem dX8_readHead_51 : decode cX8_readHead 51 = .ok (.getfield 87, 3) := by decide +kernel
theorem dX8_readHead_54 : decode cX8_readHead 54 = .ok (.iconst (-1), 1) := by decide +kernel
theorem dX8_readHead_55 : decode cX8_readHead 55 = .ok (.if_icmp .ne 5, 3) := by decide +kernel
theorem dX8_readHead_58 : decode cX8_readHead 58 = .ok (.iconst 0, 1) := by decide +kernel
theorem dX8_readHead_59 : decode cX8_readHead 59 = .ok (.ireturn, 1) := by decide +kernel
theorem dX8_readHead_60 : decode cX8_readHead 60 = .ok (.aload_n 0, 1) := by decide +kernel
theorem dX8_readHead_61 : decode cX8_readHead 61 = .ok (.getfield 12, 3) := by decide +kernel
theorem dX8_readHead_64 : decode cX8_readHead 64 = .ok (.aload_n 0, 1) := by decide +kernel
theorem dX8_readHead_65 : decode cX8_readHead 65 = .ok (.getfield 18, 3) := by decide +kernel
theorem dX8_readHead_68 : decode cX8_readHead 68 = .ok (.iconst 0, 1) := by decide +kernel
theorem dX8_readHead_69 : decode cX8_readHead 69 = .ok (.bipush 9, 2) := by decide +kernel
theorem dX8_readHead_71 : decode cX8_readHead 71 = .ok (.invokevirtual 80, 3) := by decide +kernel
theorem dX8_readHead_74 : decode cX8_readHead 74 = .ok (.putfield 90, 3) := by decide +kernel
theorem dX8_readHead_77 : decode cX8_readHead 77 = .ok (.aload_n 0, 1) := by decide +kernel
theorem dX8_readHead_78 : decode cX8_readHead 78 = .ok (.getfield 12, 3) := by decide +kernel
theorem dX8_readHead_81 : decode cX8_readHead 81 = .ok (.getfield 90, 3) := by decide +kernel
theorem dX8_readHead_84 : decode cX8_readHead 84 = .ok (.iconst (-1), 1) := by decide +kernel
theorem dX8_readHead_85 : decode cX8_readHead 85 = .ok (.if_icmp .eq 7, 3) := by decide +kernel
theorem dX8_readHead_88 : decode cX8_readHead 88 = .ok (.iconst 1, 1) := by decide +kernel
theorem dX8_readHead_89 : decode cX8_readHead 89 = .ok (.goto 4, 3) := by decide +kernel
theorem dX8_readHead_92 : decode cX8_readHead 92 = .ok (.iconst 0, 1) := by decide +kernel
theorem dX8_readHead_93 : decode cX8_readHead 93 = .ok (.ireturn, 1) := by decide +kernel
theorem dX8_readThing_0 : decode cX8_readThing 0 = .ok (.aload_n 0, 1) := by decide +kernel
theorem dX8_readThing_1 : decode cX8_readThing 1 = .ok (.getfield 18, 3) := by decide +kernel
theorem dX8_readThing_4 : decode cX8_readThing 4 = .ok (.iconst 1, 1) := by decide +kernel
theorem dX8_readThing_5 : decode cX8_readThing 5 = .ok (.bipush 6, 2) := by decide +kernel
theorem dX8_readThing_7 : decode cX8_readThing 7 = .ok (.bipush 16, 2) := by decide +kernel
theorem dX8_readThing_9 : decode cX8_readThing 9 = .ok (.aload_n 0, 1) := by decide +kernel
theorem dX8_readThing_10 : decode cX8_readThing 10 = .ok (.getfield 12, 3) := by decide +kernel
theorem dX8_readThing_13 : decode cX8_readThing 13 = .ok (.getfield 93, 3) := by decide +kernel
theorem dX8_readThing_16 : decode cX8_readThing 16 = .ok (.isub, 1) := by decide +kernel
theorem dX8_readThing_17 : decode cX8_readThing 17 = .ok (.invokestatic 96, 3) := by decide +kernel
theorem dX8_readThing_20 : decode cX8_readThing 20 = .ok (.invokevirtual 80, 3) := by decide +kernel
theorem dX8_readThing_23 : decode cX8_readThing 23 = .ok (.istore_n 1, 1) := by decide +kernel
theorem dX8_readThing_24 : decode cX8_readThing 24 = .ok (.iload_n 1, 1) := by decide +kernel
theorem dX8_readThing_25 : decode cX8_readThing 25 = .ok (.iconst (-1), 1) := by decide +kernel
theorem dX8_readThing_26 : decode cX8_readThing 26 = .ok (.if_icmp .ne 5, 3) := by decide +kernel
theorem dX8_readThing_29 : decode cX8_readThing 29 = .ok (.iconst 0, 1) := by decide +kernel
theorem dX8_readThing_30 : decode cX8_readThing 30 = .ok (.ireturn, 1) := by decide +kernel
theorem dX8_readThing_31 : decode cX8_readThing 31 = .ok (.aload_n 0, 1) := by decide +kernel
theorem dX8_readThing_32 : decode cX8_readThing 32 = .ok (.getfield 18, 3) := by decide +kernel
theorem dX8_readThing_35 : decode cX8_readThing 35 = .ok (.iconst 0, 1) := by decide +kernel
theorem dX8_readThing_36 : decode cX8_readThing 36 = .ok (.bipush 20, 2) := by decide +kernel
theorem dX8_readThing_38 : decode cX8_readThing 38 = .ok (.invokevirtual 80, 3) := by decide +kernel
theorem dX8_readThing_41 : decode cX8_readThing 41 = .ok (.istore_n 2, 1) := by decide +kernel
theorem dX8_readThing_42 : decode cX8_readThing 42 = .ok (.iload_n 2, 1) := by decide +kernel
theorem dX8_readThing_43 : decode cX8_readThing 43 = .ok (.iconst (-1), 1) := by decide +kernel
theorem dX8_readThing_44 : decode cX8_readThing 44 = .ok (.if_icmp .ne 5, 3) := by decide +kernel
theorem dX8_readThing_47 : decode cX8_readThing 47 = .ok (.iconst 0, 1) := by decide +kernel
theorem dX8_readThing_48 : decode cX8_readThing 48 = .ok (.ireturn, 1) := by decide +kernel
theorem dX8_readThing_49 : decode cX8_readThing 49 = .ok (.aload_n 0, 1) := by decide +kernel
theorem dX8_readThing_50 : decode cX8_readThing 50 = .ok (.getfield 12, 3) := by decide +kernel
theorem dX8_readThing_53 : decode cX8_readThing 53 = .ok (.getfield 47, 3) := by decide +kernel
theorem dX8_readThing_56 : decode cX8_readThing 56 = .ok (.istore_n 3, 1) := by decide +kernel
theorem dX8_readThing_57 : decode cX8_readThing 57 = .ok (.aload_n 0, 1) := by decide +kernel
theorem dX8_readThing_58 : decode cX8_readThing 58 = .ok (.getfield 12, 3) := by decide +kernel
theorem dX8_readThing_61 : decode cX8_readThing 61 = .ok (.getfield 101, 3) := by decide +kernel
theorem dX8_readThing_64 : decode cX8_readThing 64 = .ok (.iload_n 3, 1) := by decide +kernel
theorem dX8_readThing_65 : decode cX8_readThing 65 = .ok (.aload_n 0, 1) := by decide +kernel
theorem dX8_readThing_66 : decode cX8_readThing 66 = .ok (.getfield 12, 3) := by decide +kernel
theorem dX8_readThing_69 : decode cX8_readThing 69 = .ok (.getfield 93, 3) := by decide +kernel
theorem dX8_readThing_72 : decode cX8_readThing 72 = .ok (.iastore, 1) := by decide +kernel
theorem dX8_readThing_73 : decode cX8_readThing 73 = .ok (.aload_n 0, 1) := by decide +kernel
theorem dX8_readThing_74 : decode cX8_readThing 74 = .ok (.getfield 12, 3) := by decide +kernel
theorem dX8_readThing_77 : decode cX8_readThing 77 = .ok (.getfield 105, 3) := by decide +kernel
theorem dX8_readThing_80 : decode cX8_readThing 80 = .ok (.iload_n 3, 1) := by decide +kernel
theorem dX8_readThing_81 : decode cX8_readThing 81 = .ok (.iload_n 1, 1) := by decide +kernel
theorem dX8_readThing_82 : decode cX8_readThing 82 = .ok (.iastore, 1) := by decide +kernel
theorem dX8_readThing_83 : decode cX8_readThing 83 = .ok (.aload_n 0, 1) := by decide +kernel
theorem dX8_readThing_84 : decode cX8_readThing 84 = .ok (.getfield 12, 3) := by decide +kernel
theorem dX8_readThing_87 : decode cX8_readThing 87 = .ok (.getfield 108, 3) := by decide +kernel
theorem dX8_readThing_90 : decode cX8_readThing 90 = .ok (.iload_n 3, 1) := by decide +kernel
theorem dX8_readThing_91 : decode cX8_readThing 91 = .ok (.iload_n 2, 1) := by decide +kernel
theorem dX8_readThing_92 : decode cX8_readThing 92 = .ok (.iastore, 1) := by decide +kernel
theorem dX8_readThing_93 : decode cX8_readThing 93 = .ok (.aload_n 0, 1) := by decide +kernel
theorem dX8_readThing_94 : decode cX8_readThing 94 = .ok (.getfield 12, 3) := by decide +kernel
theorem dX8_readThing_97 : decode cX8_readThing 97 = .ok (.getfield 93, 3) := by decide +kernel
theorem dX8_readThing_100 : decode cX8_readThing 100 = .ok (.istore 4, 2) := by decide +kernel
theorem dX8_readThing_102 : decode cX8_readThing 102 = .ok (.iload 4, 2) := by decide +kernel
theorem dX8_readThing_104 : decode cX8_readThing 104 = .ok (.aload_n 0, 1) := by decide +kernel
theorem dX8_readThing_105 : decode cX8_readThing 105 = .ok (.getfield 12, 3) := by decide +kernel
theorem dX8_readThing_108 : decode cX8_readThing 108 = .ok (.getfield 93, 3) := by decide +kernel
theorem dX8_readThing_111 : decode cX8_readThing 111 = .ok (.iload_n 1, 1) := by decide +kernel
theorem dX8_readThing_112 : decode cX8_readThing 112 = .ok (.iadd, 1) := by decide +kernel
theorem dX8_readThing_113 : decode cX8_readThing 113 = .ok (.if_icmp .ge 20, 3) := by decide +kernel
theorem dX8_readThing_116 : decode cX8_readThing 116 = .ok (.aload_n 0, 1) := by decide +kernel
theorem dX8_readThing_117 : decode cX8_readThing 117 = .ok (.getfield 12, 3) := by decide +kernel
theorem dX8_readThing_120 : decode cX8_readThing 120 = .ok (.getfield 111, 3) := by decide +kernel
theorem dX8_readThing_123 : decode cX8_readThing 123 = .ok (.iload 4, 2) := by decide +kernel
theorem dX8_readThing_125 : decode cX8_readThing 125 = .ok (.iload_n 3, 1) := by decide +kernel
theorem dX8_readThing_126 : decode cX8_readThing 126 = .ok (.iastore, 1) := by decide +kernel
theorem dX8_readThing_127 : decode cX8_readThing 127 = .ok (.iinc 4 1, 3) := by decide +kernel
theorem dX8_readThing_130 : decode cX8_readThing 130 = .ok (.goto (-28), 3) := by decide +kernel
theorem dX8_readThing_133 : decode cX8_readThing 133 = .ok (.aload_n 0, 1) := by decide +kernel
theorem dX8_readThing_134 : decode cX8_readThing 134 = .ok (.getfield 12, 3) := by decide +kernel
theorem dX8_readThing_137 : decode cX8_readThing 137 = .ok (.dup, 1) := by decide +kernel
theorem dX8_readThing_138 : decode cX8_readThing 138 = .ok (.getfield 93, 3) := by decide +kernel
theorem dX8_readThing_141 : decode cX8_readThing 141 = .ok (.iload_n 1, 1) := by decide +kernel
theorem dX8_readThing_142 : decode cX8_readThing 142 = .ok (.iadd, 1) := by decide +kernel
theorem dX8_readThing_143 : decode cX8_readThing 143 = .ok (.putfield 93, 3) := by decide +kernel
theorem dX8_readThing_146 : decode cX8_readThing 146 = .ok (.aload_n 0, 1) := by decide +kernel
theorem dX8_readThing_147 : decode cX8_readThing 147 = .ok (.getfield 12, 3) := by decide +kernel
theorem dX8_readThing_150 : decode cX8_readThing 150 = .ok (.dup, 1) := by decide +kernel
theorem dX8_readThing_151 : decode cX8_readThing 151 = .ok (.getfield 47, 3) := by decide +kernel
theorem dX8_readThing_154 : decode cX8_readThing 154 = .ok (.iconst 1, 1) := by decide +kernel
theorem dX8_readThing_155 : decode cX8_readThing 155 = .ok (.iadd, 1) := by decide +kernel
theorem dX8_readThing_156 : decode cX8_readThing 156 = .ok (.putfield 47, 3) := by decide +kernel
theorem dX8_readThing_159 : decode cX8_readThing 159 = .ok (.iconst 1, 1) := by decide +kernel
theorem dX8_readThing_160 : decode cX8_readThing 160 = .ok (.ireturn, 1) := by decide +kernel
theorem dX8_readPainter_0 : decode cX8_readPainter 0 = .ok (.aload_n 0, 1) := by decide +kernel
theorem dX8_readPainter_1 : decode cX8_readPainter 1 = .ok (.getfield 18, 3) := by decide +kernel
theorem dX8_readPainter_4 : decode cX8_readPainter 4 = .ok (.iconst 0, 1) := by decide +kernel
theorem dX8_readPainter_5 : decode cX8_readPainter 5 = .ok (.bipush 8, 2) := by decide +kernel
theorem dX8_readPainter_7 : decode cX8_readPainter 7 = .ok (.invokevirtual 80, 3) := by decide +kernel
theorem dX8_readPainter_10 : decode cX8_readPainter 10 = .ok (.istore_n 1, 1) := by decide +kernel
theorem dX8_readPainter_11 : decode cX8_readPainter 11 = .ok (.iload_n 1, 1) := by decide +kernel
theorem dX8_readPainter_12 : decode cX8_readPainter 12 = .ok (.iconst (-1), 1) := by decide +kernel
theorem dX8_readPainter_13 : decode cX8_readPainter 13 = .ok (.if_icmp .ne 5, 3) := by decide +kernel
theorem dX8_readPainter_16 : decode cX8_readPainter 16 = .ok (.iconst 0, 1) := by decide +kernel
theorem dX8_readPainter_17 : decode cX8_readPainter 17 = .ok (.ireturn, 1) := by decide +kernel
theorem dX8_readPainter_18 : decode cX8_readPainter 18 = .ok (.aload_n 0, 1) := by decide +kernel
theorem dX8_readPainter_19 : decode cX8_readPainter 19 = .ok (.getfield 18, 3) := by decide +kernel
theorem dX8_readPainter_22 : decode cX8_readPainter 22 = .ok (.iconst 0, 1) := by decide +kernel
theorem dX8_readPainter_23 : decode cX8_readPainter 23 = .ok (.bipush 99, 2) := by decide +kernel
theorem dX8_readPainter_25 : decode cX8_readPainter 25 = .ok (.invokevirtual 80, 3) := by decide +kernel
theorem dX8_readPainter_28 : decode cX8_readPainter 28 = .ok (.istore_n 2, 1) := by decide +kernel
theorem dX8_readPainter_29 : decode cX8_readPainter 29 = .ok (.iload_n 2, 1) := by decide +kernel
theorem dX8_readPainter_30 : decode cX8_readPainter 30 = .ok (.iconst (-1), 1) := by decide +kernel
theorem dX8_readPainter_31 : decode cX8_readPainter 31 = .ok (.if_icmp .ne 5, 3) := by decide +kernel
theorem dX8_readPainter_34 : decode cX8_readPainter 34 = .ok (.iconst 0, 1) := by decide +kernel
theorem dX8_readPainter_35 : decode cX8_readPainter 35 = .ok (.ireturn, 1) := by decide +kernel
theorem dX8_readPainter_36 : decode cX8_readPainter 36 = .ok (.aload_n 0, 1) := by decide +kernel
theorem dX8_readPainter_37 : decode cX8_readPainter 37 = .ok (.getfield 12, 3) := by decide +kernel
theorem dX8_readPainter_40 : decode cX8_readPainter 40 = .ok (.getfield 114, 3) := by decide +kernel
theorem dX8_readPainter_43 : decode cX8_readPainter 43 = .ok (.aload_n 0, 1) := by decide +kernel
theorem dX8_readPainter_44 : decode cX8_readPainter 44 = .ok (.getfield 12, 3) := by decide +kernel
theorem dX8_readPainter_47 : decode cX8_readPainter 47 = .ok (.getfield 51, 3) := by decide +kernel
theorem dX8_readPainter_50 : decode cX8_readPainter 50 = .ok (.iload_n 1, 1) := by decide +kernel
theorem dX8_readPainter_51 : decode cX8_readPainter 51 = .ok (.iastore, 1) := by decide +kernel
theorem dX8_readPainter_52 : decode cX8_readPainter 52 = .ok (.aload_n 0, 1) := by decide +kernel
theorem dX8_readPainter_53 : decode cX8_readPainter 53 = .ok (.getfield 12, 3) := by decide +kernel
theorem dX8_readPainter_56 : decode cX8_readPainter 56 = .ok (.getfield 117, 3) := by decide +kernel
theorem dX8_readPainter_59 : decode cX8_readPainter 59 = .ok (.getfield 121, 3) := by decide +kernel
theorem dX8_readPainter_62 : decode cX8_readPainter 62 = .ok (.aload_n 0, 1) := by decide +kernel
theorem dX8_readPainter_63 : decode cX8_readPainter 63 = .ok (.getfield 12, 3) := by decide +kernel
theorem dX8_readPainter_66 : decode cX8_readPainter 66 = .ok (.getfield 51, 3) := by decide +kernel
theorem dX8_readPainter_69 : decode cX8_readPainter 69 = .ok (.iload_n 2, 1) := by decide +kernel
theorem dX8_readPainter_70 : decode cX8_readPainter 70 = .ok (.iastore, 1) := by decide +kernel
theorem dX8_readPainter_71 : decode cX8_readPainter 71 = .ok (.aload_n 0, 1) := by decide +kernel
theorem dX8_readPainter_72 : decode cX8_readPainter 72 = .ok (.getfield 12, 3) := by decide +kernel
theorem dX8_readPainter_75 : decode cX8_readPainter 75 = .ok (.dup, 1) := by decide +kernel
theorem dX8_readPainter_76 : decode cX8_readPainter 76 = .ok (.getfield 51, 3) := by decide +kernel
theorem dX8_readPainter_79 : decode cX8_readPainter 79 = .ok (.iconst 1, 1) := by decide +kernel
theorem dX8_readPainter_80 : decode cX8_readPainter 80 = .ok (.iadd, 1) := by decide +kernel
theorem dX8_readPainter_81 : decode cX8_readPainter 81 = .ok (.putfield 51, 3) := by decide +kernel
theorem dX8_readPainter_84 : decode cX8_readPainter 84 = .ok (.iconst 1, 1) := by decide +kernel
theorem dX8_readPainter_85 : decode cX8_readPainter 85 = .ok (.ireturn, 1) := by decide +kernel
theorem dX8_readCoat_0 : decode cX8_readCoat 0 = .ok (.aload_n 0, 1) := by decide +kernel
theorem dX8_readCoat_1 : decode cX8_readCoat 1 = .ok (.getfield 18, 3) := by decide +kernel
theorem dX8_readCoat_4 : decode cX8_readCoat 4 = .ok (.iconst 0, 1) := by decide +kernel
theorem dX8_readCoat_5 : decode cX8_readCoat 5 = .ok (.aload_n 0, 1) := by decide +kernel
theorem dX8_readCoat_6 : decode cX8_readCoat 6 = .ok (.getfield 12, 3) := by decide +kernel
theorem dX8_readCoat_9 : decode cX8_readCoat 9 = .ok (.getfield 93, 3) := by decide +kernel
theorem dX8_readCoat_12 : decode cX8_readCoat 12 = .ok (.iconst 1, 1) := by decide +kernel
theorem dX8_readCoat_13 : decode cX8_readCoat 13 = .ok (.isub, 1) := by decide +kernel
theorem dX8_readCoat_14 : decode cX8_readCoat 14 = .ok (.invokevirtual 80, 3) := by decide +kernel
theorem dX8_readCoat_17 : decode cX8_readCoat 17 = .ok (.istore_n 1, 1) := by decide +kernel
theorem dX8_readCoat_18 : decode cX8_readCoat 18 = .ok (.iload_n 1, 1) := by decide +kernel
theorem dX8_readCoat_19 : decode cX8_readCoat 19 = .ok (.iconst (-1), 1) := by decide +kernel
theorem dX8_readCoat_20 : decode cX8_readCoat 20 = .ok (.if_icmp .ne 5, 3) := by decide +kernel
theorem dX8_readCoat_23 : decode cX8_readCoat 23 = .ok (.iconst 0, 1) := by decide +kernel
theorem dX8_readCoat_24 : decode cX8_readCoat 24 = .ok (.ireturn, 1) := by decide +kernel
theorem dX8_readCoat_25 : decode cX8_readCoat 25 = .ok (.aload_n 0, 1) := by decide +kernel
theorem dX8_readCoat_26 : decode cX8_readCoat 26 = .ok (.getfield 18, 3) := by decide +kernel
theorem dX8_readCoat_29 : decode cX8_readCoat 29 = .ok (.iconst 0, 1) := by decide +kernel
theorem dX8_readCoat_30 : decode cX8_readCoat 30 = .ok (.aload_n 0, 1) := by decide +kernel
theorem dX8_readCoat_31 : decode cX8_readCoat 31 = .ok (.getfield 12, 3) := by decide +kernel
theorem dX8_readCoat_34 : decode cX8_readCoat 34 = .ok (.getfield 51, 3) := by decide +kernel
theorem dX8_readCoat_37 : decode cX8_readCoat 37 = .ok (.iconst 1, 1) := by decide +kernel
theorem dX8_readCoat_38 : decode cX8_readCoat 38 = .ok (.isub, 1) := by decide +kernel
theorem dX8_readCoat_39 : decode cX8_readCoat 39 = .ok (.invokevirtual 80, 3) := by decide +kernel
theorem dX8_readCoat_42 : decode cX8_readCoat 42 = .ok (.istore_n 2, 1) := by decide +kernel
theorem dX8_readCoat_43 : decode cX8_readCoat 43 = .ok (.iload_n 2, 1) := by decide +kernel
theorem dX8_readCoat_44 : decode cX8_readCoat 44 = .ok (.iconst (-1), 1) := by decide +kernel
theorem dX8_readCoat_45 : decode cX8_readCoat 45 = .ok (.if_icmp .ne 5, 3) := by decide +kernel
theorem dX8_readCoat_48 : decode cX8_readCoat 48 = .ok (.iconst 0, 1) := by decide +kernel
theorem dX8_readCoat_49 : decode cX8_readCoat 49 = .ok (.ireturn, 1) := by decide +kernel
theorem dX8_readCoat_50 : decode cX8_readCoat 50 = .ok (.aload_n 0, 1) := by decide +kernel
theorem dX8_readCoat_51 : decode cX8_readCoat 51 = .ok (.getfield 12, 3) := by decide +kernel
theorem dX8_readCoat_54 : decode cX8_readCoat 54 = .ok (.getfield 117, 3) := by decide +kernel
theorem dX8_readCoat_57 : decode cX8_readCoat 57 = .ok (.getfield 126, 3) := by decide +kernel
theorem dX8_readCoat_60 : decode cX8_readCoat 60 = .ok (.iload_n 1, 1) := by decide +kernel
theorem dX8_readCoat_61 : decode cX8_readCoat 61 = .ok (.aload_n 0, 1) := by decide +kernel
theorem dX8_readCoat_62 : decode cX8_readCoat 62 = .ok (.getfield 12, 3) := by decide +kernel
theorem dX8_readCoat_65 : decode cX8_readCoat 65 = .ok (.getfield 117, 3) := by decide +kernel
theorem dX8_readCoat_68 : decode cX8_readCoat 68 = .ok (.getfield 126, 3) := by decide +kernel
theorem dX8_readCoat_71 : decode cX8_readCoat 71 = .ok (.iload_n 1, 1) := by decide +kernel
theorem dX8_readCoat_72 : decode cX8_readCoat 72 = .ok (.laload, 1) := by decide +kernel
theorem dX8_readCoat_73 : decode cX8_readCoat 73 = .ok (.iload_n 2, 1) := by decide +kernel
theorem dX8_readCoat_74 : decode cX8_readCoat 74 = .ok (.iconst (-1), 1) := by decide +kernel
theorem dX8_readCoat_75 : decode cX8_readCoat 75 = .ok (.invokestatic 130, 3) := by decide +kernel
theorem dX8_readCoat_78 : decode cX8_readCoat 78 = .ok (.lastore, 1) := by decide +kernel
theorem dX8_readCoat_79 : decode cX8_readCoat 79 = .ok (.iconst 1, 1) := by decide +kernel
theorem dX8_readCoat_80 : decode cX8_readCoat 80 = .ok (.ireturn, 1) := by decide +kernel
theorem dX8_readBare_0 : decode cX8_readBare 0 = .ok (.aload_n 0, 1) := by decide +kernel
theorem dX8_readBare_1 : decode cX8_readBare 1 = .ok (.getfield 18, 3) := by decide +kernel
theorem dX8_readBare_4 : decode cX8_readBare 4 = .ok (.iconst 0, 1) := by decide +kernel
theorem dX8_readBare_5 : decode cX8_readBare 5 = .ok (.aload_n 0, 1) := by decide +kernel
theorem dX8_readBare_6 : decode cX8_readBare 6 = .ok (.getfield 12, 3) := by decide +kernel
theorem dX8_readBare_9 : decode cX8_readBare 9 = .ok (.getfield 47, 3) := by decide +kernel
theorem dX8_readBare_12 : decode cX8_readBare 12 = .ok (.iconst 1, 1) := by decide +kernel
theorem dX8_readBare_13 : decode cX8_readBare 13 = .ok (.isub, 1) := by decide +kernel
theorem dX8_readBare_14 : decode cX8_readBare 14 = .ok (.invokevirtual 80, 3) := by decide +kernel
theorem dX8_readBare_17 : decode cX8_readBare 17 = .ok (.istore_n 1, 1) := by decide +kernel
theorem dX8_readBare_18 : decode cX8_readBare 18 = .ok (.iload_n 1, 1) := by decide +kernel
theorem dX8_readBare_19 : decode cX8_readBare 19 = .ok (.iconst (-1), 1) := by decide +kernel
theorem dX8_readBare_20 : decode cX8_readBare 20 = .ok (.if_icmp .ne 5, 3) := by decide +kernel
theorem dX8_readBare_23 : decode cX8_readBare 23 = .ok (.iconst 0, 1) := by decide +kernel
theorem dX8_readBare_24 : decode cX8_readBare 24 = .ok (.ireturn, 1) := by decide +kernel
theorem dX8_readBare_25 : decode cX8_readBare 25 = .ok (.aload_n 0, 1) := by decide +kernel
theorem dX8_readBare_26 : decode cX8_readBare 26 = .ok (.getfield 12, 3) := by decide +kernel
theorem dX8_readBare_29 : decode cX8_readBare 29 = .ok (.getfield 117, 3) := by decide +kernel
theorem dX8_readBare_32 : decode cX8_readBare 32 = .ok (.dup, 1) := by decide +kernel
theorem dX8_readBare_33 : decode cX8_readBare 33 = .ok (.getfield 136, 3) := by decide +kernel
theorem dX8_readBare_36 : decode cX8_readBare 36 = .ok (.iconst 1, 1) := by decide +kernel
theorem dX8_readBare_37 : decode cX8_readBare 37 = .ok (.iload_n 1, 1) := by decide +kernel
theorem dX8_readBare_38 : decode cX8_readBare 38 = .ok (.ishl, 1) := by decide +kernel
theorem dX8_readBare_39 : decode cX8_readBare 39 = .ok (.ior, 1) := by decide +kernel
theorem dX8_readBare_40 : decode cX8_readBare 40 = .ok (.putfield 136, 3) := by decide +kernel
theorem dX8_readBare_43 : decode cX8_readBare 43 = .ok (.iconst 1, 1) := by decide +kernel
theorem dX8_readBare_44 : decode cX8_readBare 44 = .ok (.ireturn, 1) := by decide +kernel
theorem dX8_readRain_0 : decode cX8_readRain 0 = .ok (.aload_n 0, 1) := by decide +kernel
theorem dX8_readRain_1 : decode cX8_readRain 1 = .ok (.getfield 18, 3) := by decide +kernel
theorem dX8_readRain_4 : decode cX8_readRain 4 = .ok (.iconst 0, 1) := by decide +kernel
theorem dX8_readRain_5 : decode cX8_readRain 5 = .ok (.sipush 199, 3) := by decide +kernel
theorem dX8_readRain_8 : decode cX8_readRain 8 = .ok (.invokevirtual 80, 3) := by decide +kernel
theorem dX8_readRain_11 : decode cX8_readRain 11 = .ok (.istore_n 1, 1) := by decide +kernel
theorem dX8_readRain_12 : decode cX8_readRain 12 = .ok (.iload_n 1, 1) := by decide +kernel
theorem dX8_readRain_13 : decode cX8_readRain 13 = .ok (.iconst (-1), 1) := by decide +kernel
theorem dX8_readRain_14 : decode cX8_readRain 14 = .ok (.if_icmp .ne 5, 3) := by decide +kernel
theorem dX8_readRain_17 : decode cX8_readRain 17 = .ok (.iconst 0, 1) := by decide +kernel
theorem dX8_readRain_18 : decode cX8_readRain 18 = .ok (.ireturn, 1) := by decide +kernel
theorem dX8_readRain_19 : decode cX8_readRain 19 = .ok (.aload_n 0, 1) := by decide +kernel
theorem dX8_readRain_20 : decode cX8_readRain 20 = .ok (.getfield 18, 3) := by decide +kernel
theorem dX8_readRain_23 : decode cX8_readRain 23 = .ok (.iload_n 1, 1) := by decide +kernel
theorem dX8_readRain_24 : decode cX8_readRain 24 = .ok (.sipush 199, 3) := by decide +kernel
theorem dX8_readRain_27 : decode cX8_readRain 27 = .ok (.invokevirtual 80, 3) := by decide +kernel
theorem dX8_readRain_30 : decode cX8_readRain 30 = .ok (.istore_n 2, 1) := by decide +kernel
theorem dX8_readRain_31 : decode cX8_readRain 31 = .ok (.iload_n 2, 1) := by decide +kernel
theorem dX8_readRain_32 : decode cX8_readRain 32 = .ok (.iconst (-1), 1) := by decide +kernel
theorem dX8_readRain_33 : decode cX8_readRain 33 = .ok (.if_icmp .ne 5, 3) := by decide +kernel
theorem dX8_readRain_36 : decode cX8_readRain 36 = .ok (.iconst 0, 1) := by decide +kernel
theorem dX8_readRain_37 : decode cX8_readRain 37 = .ok (.ireturn, 1) := by decide +kernel
theorem dX8_readRain_38 : decode cX8_readRain 38 = .ok (.aload_n 0, 1) := by decide +kernel
theorem dX8_readRain_39 : decode cX8_readRain 39 = .ok (.getfield 12, 3) := by decide +kernel
theorem dX8_readRain_42 : decode cX8_readRain 42 = .ok (.getfield 139, 3) := by decide +kernel
theorem dX8_readRain_45 : decode cX8_readRain 45 = .ok (.aload_n 0, 1) := by decide +kernel
theorem dX8_readRain_46 : decode cX8_readRain 46 = .ok (.getfield 12, 3) := by decide +kernel
theorem dX8_readRain_49 : decode cX8_readRain 49 = .ok (.getfield 54, 3) := by decide +kernel
theorem dX8_readRain_52 : decode cX8_readRain 52 = .ok (.iload_n 1, 1) := by decide +kernel
theorem dX8_readRain_53 : decode cX8_readRain 53 = .ok (.iastore, 1) := by decide +kernel
theorem dX8_readRain_54 : decode cX8_readRain 54 = .ok (.aload_n 0, 1) := by decide +kernel
theorem dX8_readRain_55 : decode cX8_readRain 55 = .ok (.getfield 12, 3) := by decide +kernel
theorem dX8_readRain_58 : decode cX8_readRain 58 = .ok (.getfield 142, 3) := by decide +kernel
theorem dX8_readRain_61 : decode cX8_readRain 61 = .ok (.aload_n 0, 1) := by decide +kernel
theorem dX8_readRain_62 : decode cX8_readRain 62 = .ok (.getfield 12, 3) := by decide +kernel
theorem dX8_readRain_65 : decode cX8_readRain 65 = .ok (.getfield 54, 3) := by decide +kernel
theorem dX8_readRain_68 : decode cX8_readRain 68 = .ok (.iload_n 2, 1) := by decide +kernel
theorem dX8_readRain_69 : decode cX8_readRain 69 = .ok (.iastore, 1) := by decide +kernel
theorem dX8_readRain_70 : decode cX8_readRain 70 = .ok (.aload_n 0, 1) := by decide +kernel
theorem dX8_readRain_71 : decode cX8_readRain 71 = .ok (.getfield 12, 3) := by decide +kernel
theorem dX8_readRain_74 : decode cX8_readRain 74 = .ok (.dup, 1) := by decide +kernel
theorem dX8_readRain_75 : decode cX8_readRain 75 = .ok (.getfield 54, 3) := by decide +kernel
theorem dX8_readRain_78 : decode cX8_readRain 78 = .ok (.iconst 1, 1) := by decide +kernel
theorem dX8_readRain_79 : decode cX8_readRain 79 = .ok (.iadd, 1) := by decide +kernel
theorem dX8_readRain_80 : decode cX8_readRain 80 = .ok (.putfield 54, 3) := by decide +kernel
theorem dX8_readRain_83 : decode cX8_readRain 83 = .ok (.iconst 1, 1) := by decide +kernel
theorem dX8_readRain_84 : decode cX8_readRain 84 = .ok (.ireturn, 1) := by decide +kernel
theorem dX8_finish_0 : decode cX8_finish 0 = .ok (.iconst 0, 1) := by decide +kernel
theorem dX8_finish_1 : decode cX8_finish 1 = .ok (.istore_n 1, 1) := by decide +kernel
theorem dX8_finish_2 : decode cX8_finish 2 = .ok (.iload_n 1, 1) := by decide +kernel
theorem dX8_finish_3 : decode cX8_finish 3 = .ok (.aload_n 0, 1) := by decide +kernel
theorem dX8_finish_4 : decode cX8_finish 4 = .ok (.getfield 12, 3) := by decide +kernel
theorem dX8_finish_7 : decode cX8_finish 7 = .ok (.getfield 47, 3) := by decide +kernel
theorem dX8_finish_10 : decode cX8_finish 10 = .ok (.if_icmp .ge 39, 3) := by decide +kernel
theorem dX8_finish_13 : decode cX8_finish 13 = .ok (.aload_n 0, 1) := by decide +kernel
theorem dX8_finish_14 : decode cX8_finish 14 = .ok (.getfield 12, 3) := by decide +kernel
theorem dX8_finish_17 : decode cX8_finish 17 = .ok (.getfield 117, 3) := by decide +kernel
theorem dX8_finish_20 : decode cX8_finish 20 = .ok (.iload_n 1, 1) := by decide +kernel
theorem dX8_finish_21 : decode cX8_finish 21 = .ok (.invokevirtual 145, 3) := by decide +kernel
theorem dX8_finish_24 : decode cX8_finish 24 = .ok (.ifCond .eq 19, 3) := by decide +kernel
theorem dX8_finish_27 : decode cX8_finish 27 = .ok (.aload_n 0, 1) := by decide +kernel
theorem dX8_finish_28 : decode cX8_finish 28 = .ok (.getfield 12, 3) := by decide +kernel
theorem dX8_finish_31 : decode cX8_finish 31 = .ok (.aload_n 0, 1) := by decide +kernel
theorem dX8_finish_32 : decode cX8_finish 32 = .ok (.getfield 12, 3) := by decide +kernel
theorem dX8_finish_35 : decode cX8_finish 35 = .ok (.getfield 117, 3) := by decide +kernel
theorem dX8_finish_38 : decode cX8_finish 38 = .ok (.iload_n 1, 1) := by decide +kernel
theorem dX8_finish_39 : decode cX8_finish 39 = .ok (.invokevirtual 148, 3) := by decide +kernel
theorem dX8_finish_42 : decode cX8_finish 42 = .ok (.pop, 1) := by decide +kernel
theorem dX8_finish_43 : decode cX8_finish 43 = .ok (.iinc 1 1, 3) := by decide +kernel
theorem dX8_finish_46 : decode cX8_finish 46 = .ok (.goto (-44), 3) := by decide +kernel
theorem dX8_finish_49 : decode cX8_finish 49 = .ok (.aload_n 0, 1) := by decide +kernel
theorem dX8_finish_50 : decode cX8_finish 50 = .ok (.getfield 12, 3) := by decide +kernel
theorem dX8_finish_53 : decode cX8_finish 53 = .ok (.iconst 1, 1) := by decide +kernel
theorem dX8_finish_54 : decode cX8_finish 54 = .ok (.putfield 152, 3) := by decide +kernel
theorem dX8_finish_57 : decode cX8_finish 57 = .ok (.return_, 1) := by decide +kernel
theorem dX9_init_0 : decode cX9_init 0 = .ok (.aload_n 0, 1) := by decide +kernel
theorem dX9_init_1 : decode cX9_init 1 = .ok (.invokespecial 3, 3) := by decide +kernel
theorem dX9_init_4 : decode cX9_init 4 = .ok (.aload_n 0, 1) := by decide +kernel
theorem dX9_init_5 : decode cX9_init 5 = .ok (.sipush 401, 3) := by decide +kernel
theorem dX9_init_8 : decode cX9_init 8 = .ok (.newarray .int, 2) := by decide +kernel
theorem dX9_init_10 : decode cX9_init 10 = .ok (.putfield 9, 3) := by decide +kernel
theorem dX9_init_13 : decode cX9_init 13 = .ok (.aload_n 0, 1) := by decide +kernel
theorem dX9_init_14 : decode cX9_init 14 = .ok (.sipush 401, 3) := by decide +kernel
theorem dX9_init_17 : decode cX9_init 17 = .ok (.newarray .int, 2) := by decide +kernel
theorem dX9_init_19 : decode cX9_init 19 = .ok (.putfield 15, 3) := by decide +kernel
theorem dX9_init_22 : decode cX9_init 22 = .ok (.aload_n 0, 1) := by decide +kernel
theorem dX9_init_23 : decode cX9_init 23 = .ok (.sipush 401, 3) := by decide +kernel
theorem dX9_init_26 : decode cX9_init 26 = .ok (.newarray .int, 2) := by decide +kernel
theorem dX9_init_28 : decode cX9_init 28 = .ok (.putfield 18, 3) := by decide +kernel
theorem dX9_init_31 : decode cX9_init 31 = .ok (.return_, 1) := by decide +kernel
theorem dX9_split_0 : decode cX9_split 0 = .ok (.aload_n 0, 1) := by decide +kernel
theorem dX9_split_1 : decode cX9_split 1 = .ok (.iconst 0, 1) := by decide +kernel
theorem dX9_split_2 : decode cX9_split 2 = .ok (.putfield 21, 3) := by decide +kernel
theorem dX9_split_5 : decode cX9_split 5 = .ok (.aload_n 0, 1) := by decide +kernel
theorem dX9_split_6 : decode cX9_split 6 = .ok (.iconst 0, 1) := by decide +kernel
theorem dX9_split_7 : decode cX9_split 7 = .ok (.putfield 25, 3) := by decide +kernel
theorem dX9_split_10 : decode cX9_split 10 = .ok (.aload_n 0, 1) := by decide +kernel
theorem dX9_split_11 : decode cX9_split 11 = .ok (.iconst 0, 1) := by decide +kernel
theorem dX9_split_12 : decode cX9_split 12 = .ok (.putfield 28, 3) := by decide +kernel
theorem dX9_split_15 : decode cX9_split 15 = .ok (.iconst 0, 1) := by decide +kernel
theorem dX9_split_16 : decode cX9_split 16 = .ok (.istore_n 3, 1) := by decide +kernel
theorem dX9_split_17 : decode cX9_split 17 = .ok (.iload_n 3, 1) := by decide +kernel
theorem dX9_split_18 : decode cX9_split 18 = .ok (.iload_n 2, 1) := by decide +kernel
theorem dX9_split_19 : decode cX9_split 19 = .ok (.if_icmp .ge 50, 3) := by decide +kernel
theorem dX9_split_22 : decode cX9_split 22 = .ok (.iload_n 3, 1) := by decide +kernel
theorem dX9_split_23 : decode cX9_split 23 = .ok (.iconst 1, 1) := by decide +kernel
theorem dX9_split_24 : decode cX9_split 24 = .ok (.iadd, 1) := by decide +kernel
theorem dX9_split_25 : decode cX9_split 25 = .ok (.aload_n 1, 1) := by decide +kernel
theorem dX9_split_26 : decode cX9_split 26 = .ok (.iload_n 3, 1) := by decide +kernel
theorem dX9_split_27 : decode cX9_split 27 = .ok (.iload_n 2, 1) := by decide +kernel
theorem dX9_split_28 : decode cX9_split 28 = .ok (.invokestatic 31, 3) := by decide +kernel
theorem dX9_split_31 : decode cX9_split 31 = .ok (.invokestatic 35, 3) := by decide +kernel
theorem dX9_split_34 : decode cX9_split 34 = .ok (.istore 4, 2) := by decide +kernel
theorem dX9_split_36 : decode cX9_split 36 = .ok (.aload_n 1, 1) := by decide +kernel
theorem dX9_split_37 : decode cX9_split 37 = .ok (.iload_n 3, 1) := by decide +kernel
theorem dX9_split_38 : decode cX9_split 38 = .ok (.baload, 1) := by decide +kernel
theorem dX9_split_39 : decode cX9_split 39 = .ok (.bipush 32, 2) := by decide +kernel
theorem dX9_split_41 : decode cX9_split 41 = .ok (.if_icmp .eq 22, 3) := by decide +kernel
theorem dX9_split_44 : decode cX9_split 44 = .ok (.aload_n 0, 1) := by decide +kernel
theorem dX9_split_45 : decode cX9_split 45 = .ok (.aload_n 1, 1) := by decide +kernel
theorem dX9_split_46 : decode cX9_split 46 = .ok (.iload_n 3, 1) := by decide +kernel
theorem dX9_split_47 : decode cX9_split 47 = .ok (.iload 4, 2) := by decide +kernel
theorem dX9_split_49 : decode cX9_split 49 = .ok (.invokestatic 41, 3) := by decide +kernel
theorem dX9_split_52 : decode cX9_split 52 = .ok (.iload_n 3, 1) := by decide +kernel
theorem dX9_split_53 : decode cX9_split 53 = .ok (.aload_n 1, 1) := by decide +kernel
theorem dX9_split_54 : decode cX9_split 54 = .ok (.iload_n 3, 1) := by decide +kernel
theorem dX9_split_55 : decode cX9_split 55 = .ok (.iload 4, 2) := by decide +kernel
theorem dX9_split_57 : decode cX9_split 57 = .ok (.invokestatic 44, 3) := by decide +kernel
theorem dX9_split_60 : decode cX9_split 60 = .ok (.invokevirtual 47, 3) := by decide +kernel
theorem dX9_split_63 : decode cX9_split 63 = .ok (.iload 4, 2) := by decide +kernel
theorem dX9_split_65 : decode cX9_split 65 = .ok (.istore_n 3, 1) := by decide +kernel
theorem dX9_split_66 : decode cX9_split 66 = .ok (.goto (-49), 3) := by decide +kernel
theorem dX9_split_69 : decode cX9_split 69 = .ok (.aload_n 0, 1) := by decide +kernel
theorem dX9_split_70 : decode cX9_split 70 = .ok (.bipush 36, 2) := by decide +kernel
theorem dX9_split_72 : decode cX9_split 72 = .ok (.iload_n 2, 1) := by decide +kernel
theorem dX9_split_73 : decode cX9_split 73 = .ok (.iconst (-1), 1) := by decide +kernel
theorem dX9_split_74 : decode cX9_split 74 = .ok (.invokevirtual 47, 3) := by decide +kernel
theorem dX9_split_77 : decode cX9_split 77 = .ok (.return_, 1) := by decide +kernel
theorem dX9_add_0 : decode cX9_add 0 = .ok (.aload_n 0, 1) := by decide +kernel
theorem dX9_add_1 : decode cX9_add 1 = .ok (.getfield 21, 3) := by decide +kernel
theorem dX9_add_4 : decode cX9_add 4 = .ok (.sipush 400, 3) := by decide +kernel
theorem dX9_add_7 : decode cX9_add 7 = .ok (.if_icmp .gt 43, 3) := by decide +kernel
theorem dX9_add_10 : decode cX9_add 10 = .ok (.aload_n 0, 1) := by decide +kernel
theorem dX9_add_11 : decode cX9_add 11 = .ok (.getfield 9, 3) := by decide +kernel
theorem dX9_add_14 : decode cX9_add 14 = .ok (.aload_n 0, 1) := by decide +kernel
theorem dX9_add_15 : decode cX9_add 15 = .ok (.getfield 21, 3) := by decide +kernel
theorem dX9_add_18 : decode cX9_add 18 = .ok (.iload_n 1, 1) := by decide +kernel
theorem dX9_add_19 : decode cX9_add 19 = .ok (.iastore, 1) := by decide +kernel
theorem dX9_add_20 : decode cX9_add 20 = .ok (.aload_n 0, 1) := by decide +kernel
theorem dX9_add_21 : decode cX9_add 21 = .ok (.getfield 15, 3) := by decide +kernel
theorem dX9_add_24 : decode cX9_add 24 = .ok (.aload_n 0, 1) := by decide +kernel
theorem dX9_add_25 : decode cX9_add 25 = .ok (.getfield 21, 3) := by decide +kernel
theorem dX9_add_28 : decode cX9_add 28 = .ok (.iload_n 2, 1) := by decide +kernel
theorem dX9_add_29 : decode cX9_add 29 = .ok (.iastore, 1) := by decide +kernel
theorem dX9_add_30 : decode cX9_add 30 = .ok (.aload_n 0, 1) := by decide +kernel
theorem dX9_add_31 : decode cX9_add 31 = .ok (.getfield 18, 3) := by decide +kernel
theorem dX9_add_34 : decode cX9_add 34 = .ok (.aload_n 0, 1) := by decide +kernel
theorem dX9_add_35 : decode cX9_add 35 = .ok (.getfield 21, 3) := by decide +kernel
theorem dX9_add_38 : decode cX9_add 38 = .ok (.iload_n 3, 1) := by decide +kernel
theorem dX9_add_39 : decode cX9_add 39 = .ok (.iastore, 1) := by decide +kernel
theorem dX9_add_40 : decode cX9_add 40 = .ok (.aload_n 0, 1) := by decide +kernel
theorem dX9_add_41 : decode cX9_add 41 = .ok (.dup, 1) := by decide +kernel
theorem dX9_add_42 : decode cX9_add 42 = .ok (.getfield 21, 3) := by decide +kernel
theorem dX9_add_45 : decode cX9_add 45 = .ok (.iconst 1, 1) := by decide +kernel
theorem dX9_add_46 : decode cX9_add 46 = .ok (.iadd, 1) := by decide +kernel
theorem dX9_add_47 : decode cX9_add 47 = .ok (.putfield 21, 3) := by decide +kernel
theorem dX9_add_50 : decode cX9_add 50 = .ok (.return_, 1) := by decide +kernel
theorem dX9_isLetter_0 : decode cX9_isLetter 0 = .ok (.iload_n 0, 1) := by decide +kernel
theorem dX9_isLetter_1 : decode cX9_isLetter 1 = .ok (.bipush 97, 2) := by decide +kernel
theorem dX9_isLetter_3 : decode cX9_isLetter 3 = .ok (.if_icmp .lt 13, 3) := by decide +kernel
theorem dX9_isLetter_6 : decode cX9_isLetter 6 = .ok (.iload_n 0, 1) := by decide +kernel
theorem dX9_isLetter_7 : decode cX9_isLetter 7 = .ok (.bipush 122, 2) := by decide +kernel
theorem dX9_isLetter_9 : decode cX9_isLetter 9 = .ok (.if_icmp .gt 7, 3) := by decide +kernel
theorem dX9_isLetter_12 : decode cX9_isLetter 12 = .ok (.iconst 1, 1) := by decide +kernel
theorem dX9_isLetter_13 : decode cX9_isLetter 13 = .ok (.goto 4, 3) := by decide +kernel
theorem dX9_isLetter_16 : decode cX9_isLetter 16 = .ok (.iconst 0, 1) := by decide +kernel
theorem dX9_isLetter_17 : decode cX9_isLetter 17 = .ok (.ireturn, 1) := by decide +kernel
theorem dX9_isDigit_0 : decode cX9_isDigit 0 = .ok (.iload_n 0, 1) := by decide +kernel
theorem dX9_isDigit_1 : decode cX9_isDigit 1 = .ok (.bipush 48, 2) := by decide +kernel
theorem dX9_isDigit_3 : decode cX9_isDigit 3 = .ok (.if_icmp .lt 13, 3) := by decide +kernel
theorem dX9_isDigit_6 : decode cX9_isDigit 6 = .ok (.iload_n 0, 1) := by decide +kernel
theorem dX9_isDigit_7 : decode cX9_isDigit 7 = .ok (.bipush 57, 2) := by decide +kernel
theorem dX9_isDigit_9 : decode cX9_isDigit 9 = .ok (.if_icmp .gt 7, 3) := by decide +kernel
theorem dX9_isDigit_12 : decode cX9_isDigit 12 = .ok (.iconst 1, 1) := by decide +kernel
theorem dX9_isDigit_13 : decode cX9_isDigit 13 = .ok (.goto 4, 3) := by decide +kernel
theorem dX9_isDigit_16 : decode cX9_isDigit 16 = .ok (.iconst 0, 1) := by decide +kernel
theorem dX9_isDigit_17 : decode cX9_isDigit 17 = .ok (.ireturn, 1) := by decide +kernel
theorem dX9_runEnd_0 : decode cX9_runEnd 0 = .ok (.aload_n 0, 1) := by decide +kernel
theorem dX9_runEnd_1 : decode cX9_runEnd 1 = .ok (.iload_n 1, 1) := by decide +kernel
theorem dX9_runEnd_2 : decode cX9_runEnd 2 = .ok (.baload, 1) := by decide +kernel
theorem dX9_runEnd_3 : decode cX9_runEnd 3 = .ok (.istore_n 3, 1) := by decide +kernel
theorem dX9_runEnd_4 : decode cX9_runEnd 4 = .ok (.iload_n 1, 1) := by decide +kernel
theorem dX9_runEnd_5 : decode cX9_runEnd 5 = .ok (.iconst 1, 1) := by decide +kernel
theorem dX9_runEnd_6 : decode cX9_runEnd 6 = .ok (.iadd, 1) := by decide +kernel
theorem dX9_runEnd_7 : decode cX9_runEnd 7 = .ok (.istore 4, 2) := by decide +kernel
theorem dX9_runEnd_9 : decode cX9_runEnd 9 = .ok (.iload_n 3, 1) := by decide +kernel
theorem dX9_runEnd_10 : decode cX9_runEnd 10 = .ok (.invokestatic 51, 3) := by decide +kernel
theorem dX9_runEnd_13 : decode cX9_runEnd 13 = .ok (.ifCond .eq 25, 3) := by decide +kernel
theorem dX9_runEnd_16 : decode cX9_runEnd 16 = .ok (.iload 4, 2) := by decide +kernel
theorem dX9_runEnd_18 : decode cX9_runEnd 18 = .ok (.iload_n 2, 1) := by decide +kernel
theorem dX9_runEnd_19 : decode cX9_runEnd 19 = .ok (.if_icmp .ge 78, 3) := by decide +kernel
theorem dX9_runEnd_22 : decode cX9_runEnd 22 = .ok (.aload_n 0, 1) := by decide +kernel
theorem dX9_runEnd_23 : decode cX9_runEnd 23 = .ok (.iload 4, 2) := by decide +kernel
theorem dX9_runEnd_25 : decode cX9_runEnd 25 = .ok (.baload, 1) := by decide +kernel
theorem dX9_runEnd_26 : decode cX9_runEnd 26 = .ok (.invokestatic 51, 3) := by decide +kernel
theorem dX9_runEnd_29 : decode cX9_runEnd 29 = .ok (.ifCond .eq 68, 3) := by decide +kernel
theorem dX9_runEnd_32 : decode cX9_runEnd 32 = .ok (.iinc 4 1, 3) := by decide +kernel
theorem dX9_runEnd_35 : decode cX9_runEnd 35 = .ok (.goto (-19), 3) := by decide +kernel
theorem dX9_runEnd_38 : decode cX9_runEnd 38 = .ok (.iload_n 3, 1) := by decide +kernel
theorem dX9_runEnd_39 : decode cX9_runEnd 39 = .ok (.invokestatic 55, 3) := by decide +kernel
theorem dX9_runEnd_42 : decode cX9_runEnd 42 = .ok (.ifCond .eq 25, 3) := by decide +kernel
theorem dX9_runEnd_45 : decode cX9_runEnd 45 = .ok (.iload 4, 2) := by decide +kernel
theorem dX9_runEnd_47 : decode cX9_runEnd 47 = .ok (.iload_n 2, 1) := by decide +kernel
theorem dX9_runEnd_48 : decode cX9_runEnd 48 = .ok (.if_icmp .ge 49, 3) := by decide +kernel
theorem dX9_runEnd_51 : decode cX9_runEnd 51 = .ok (.aload_n 0, 1) := by decide +kernel
theorem dX9_runEnd_52 : decode cX9_runEnd 52 = .ok (.iload 4, 2) := by decide +kernel
theorem dX9_runEnd_54 : decode cX9_runEnd 54 = .ok (.baload, 1) := by decide +kernel
theorem dX9_runEnd_55 : decode cX9_runEnd 55 = .ok (.invokestatic 55, 3) := by decide +kernel
theorem dX9_runEnd_58 : decode cX9_runEnd 58 = .ok (.ifCond .eq 39, 3) := by decide +kernel
theorem dX9_runEnd_61 : decode cX9_runEnd 61 = .ok (.iinc 4 1, 3) := by decide +kernel
theorem dX9_runEnd_64 : decode cX9_runEnd 64 = .ok (.goto (-19), 3) := by decide +kernel
theorem dX9_runEnd_67 : decode cX9_runEnd 67 = .ok (.iload_n 3, 1) := by decide +kernel
theorem dX9_runEnd_68 : decode cX9_runEnd 68 = .ok (.bipush 60, 2) := by decide +kernel
theorem dX9_runEnd_70 : decode cX9_runEnd 70 = .ok (.if_icmp .eq 9, 3) := by decide +kernel
theorem dX9_runEnd_73 : decode cX9_runEnd 73 = .ok (.iload_n 3, 1) := by decide +kernel
theorem dX9_runEnd_74 : decode cX9_runEnd 74 = .ok (.bipush 62, 2) := by decide +kernel
theorem dX9_runEnd_76 : decode cX9_runEnd 76 = .ok (.if_icmp .ne 21, 3) := by decide +kernel
theorem dX9_runEnd_79 : decode cX9_runEnd 79 = .ok (.iload 4, 2) := by decide +kernel
theorem dX9_runEnd_81 : decode cX9_runEnd 81 = .ok (.iload_n 2, 1) := by decide +kernel
theorem dX9_runEnd_82 : decode cX9_runEnd 82 = .ok (.if_icmp .ge 15, 3) := by decide +kernel
theorem dX9_runEnd_85 : decode cX9_runEnd 85 = .ok (.aload_n 0, 1) := by decide +kernel
theorem dX9_runEnd_86 : decode cX9_runEnd 86 = .ok (.iload 4, 2) := by decide +kernel
theorem dX9_runEnd_88 : decode cX9_runEnd 88 = .ok (.baload, 1) := by decide +kernel
theorem dX9_runEnd_89 : decode cX9_runEnd 89 = .ok (.bipush 61, 2) := by decide +kernel
theorem dX9_runEnd_91 : decode cX9_runEnd 91 = .ok (.if_icmp .ne 6, 3) := by decide +kernel
theorem dX9_runEnd_94 : decode cX9_runEnd 94 = .ok (.iinc 4 1, 3) := by decide +kernel
theorem dX9_runEnd_97 : decode cX9_runEnd 97 = .ok (.iload 4, 2) := by decide +kernel
theorem dX9_runEnd_99 : decode cX9_runEnd 99 = .ok (.ireturn, 1) := by decide +kernel
theorem dX9_kindOf_0 : decode cX9_kindOf 0 = .ok (.aload_n 0, 1) := by decide +kernel
theorem dX9_kindOf_1 : decode cX9_kindOf 1 = .ok (.iload_n 1, 1) := by decide +kernel
theorem dX9_kindOf_2 : decode cX9_kindOf 2 = .ok (.baload, 1) := by decide +kernel
theorem dX9_kindOf_3 : decode cX9_kindOf 3 = .ok (.istore_n 3, 1) := by decide +kernel
theorem dX9_kindOf_4 : decode cX9_kindOf 4 = .ok (.iload_n 3, 1) := by decide +kernel
theorem dX9_kindOf_5 : decode cX9_kindOf 5 = .ok (.invokestatic 51, 3) := by decide +kernel
theorem dX9_kindOf_8 : decode cX9_kindOf 8 = .ok (.ifCond .eq 10, 3) := by decide +kernel
theorem dX9_kindOf_11 : decode cX9_kindOf 11 = .ok (.aload_n 0, 1) := by decide +kernel
theorem dX9_kindOf_12 : decode cX9_kindOf 12 = .ok (.iload_n 1, 1) := by decide +kernel
theorem dX9_kindOf_13 : decode cX9_kindOf 13 = .ok (.iload_n 2, 1) := by decide +kernel
theorem dX9_kindOf_14 : decode cX9_kindOf 14 = .ok (.invokestatic 58, 3) := by decide +kernel
theorem dX9_kindOf_17 : decode cX9_kindOf 17 = .ok (.ireturn, 1) := by decide +kernel
theorem dX9_kindOf_18 : decode cX9_kindOf 18 = .ok (.iload_n 3, 1) := by decide +kernel
theorem dX9_kindOf_19 : decode cX9_kindOf 19 = .ok (.invokestatic 55, 3) := by decide +kernel
theorem dX9_kindOf_22 : decode cX9_kindOf 22 = .ok (.ifCond .eq 6, 3) := by decide +kernel
theorem dX9_kindOf_25 : decode cX9_kindOf 25 = .ok (.bipush 35, 2) := by decide +kernel
theorem dX9_kindOf_27 : decode cX9_kindOf 27 = .ok (.ireturn, 1) := by decide +kernel
theorem dX9_kindOf_28 : decode cX9_kindOf 28 = .ok (.iload_n 2, 1) := by decide +kernel
theorem dX9_kindOf_29 : decode cX9_kindOf 29 = .ok (.iload_n 1, 1) := by decide +kernel
theorem dX9_kindOf_30 : decode cX9_kindOf 30 = .ok (.isub, 1) := by decide +kernel
theorem dX9_kindOf_31 : decode cX9_kindOf 31 = .ok (.iconst 2, 1) := by decide +kernel
theorem dX9_kindOf_32 : decode cX9_kindOf 32 = .ok (.if_icmp .ne 17, 3) := by decide +kernel
theorem dX9_kindOf_35 : decode cX9_kindOf 35 = .ok (.iload_n 3, 1) := by decide +kernel
theorem dX9_kindOf_36 : decode cX9_kindOf 36 = .ok (.bipush 60, 2) := by decide +kernel
theorem dX9_kindOf_38 : decode cX9_kindOf 38 = .ok (.if_icmp .ne 8, 3) := by decide +kernel
theorem dX9_kindOf_41 : decode cX9_kindOf 41 = .ok (.bipush 33, 2) := by decide +kernel
theorem dX9_kindOf_43 : decode cX9_kindOf 43 = .ok (.goto 5, 3) := by decide +kernel
theorem dX9_kindOf_46 : decode cX9_kindOf 46 = .ok (.bipush 34, 2) := by decide +kernel
theorem dX9_kindOf_48 : decode cX9_kindOf 48 = .ok (.ireturn, 1) := by decide +kernel
theorem dX9_kindOf_49 : decode cX9_kindOf 49 = .ok (.iload_n 3, 1) := by decide +kernel
theorem dX9_kindOf_50 : decode cX9_kindOf 50 = .ok (.ifCond .ge 7, 3) := by decide +kernel
theorem dX9_kindOf_53 : decode cX9_kindOf 53 = .ok (.iconst (-1), 1) := by decide +kernel
theorem dX9_kindOf_54 : decode cX9_kindOf 54 = .ok (.goto 10, 3) := by decide +kernel
theorem dX9_kindOf_57 : decode cX9_kindOf 57 = .ok (.ldc 61, 2) := by decide +kernel
theorem dX9_kindOf_59 : decode cX9_kindOf 59 = .ok (.iload_n 3, 1) := by decide +kernel
theorem dX9_kindOf_60 : decode cX9_kindOf 60 = .ok (.i2c, 1) := by decide +kernel
theorem dX9_kindOf_61 : decode cX9_kindOf 61 = .ok (.invokevirtual 63, 3) := by decide +kernel
theorem dX9_kindOf_64 : decode cX9_kindOf 64 = .ok (.istore 4, 2) := by decide +kernel
theorem dX9_kindOf_66 : decode cX9_kindOf 66 = .ok (.iload 4, 2) := by decide +kernel
theorem dX9_kindOf_68 : decode cX9_kindOf 68 = .ok (.ifCond .ge 8, 3) := by decide +kernel
theorem dX9_kindOf_71 : decode cX9_kindOf 71 = .ok (.bipush 37, 2) := by decide +kernel
theorem dX9_kindOf_73 : decode cX9_kindOf 73 = .ok (.goto 8, 3) := by decide +kernel
theorem dX9_kindOf_76 : decode cX9_kindOf 76 = .ok (.bipush 22, 2) := by decide +kernel
theorem dX9_kindOf_78 : decode cX9_kindOf 78 = .ok (.iload 4, 2) := by decide +kernel
theorem dX9_kindOf_80 : decode cX9_kindOf 80 = .ok (.iadd, 1) := by decide +kernel
theorem dX9_kindOf_81 : decode cX9_kindOf 81 = .ok (.ireturn, 1) := by decide +kernel
theorem dX9_wordKind_0 : decode cX9_wordKind 0 = .ok (.iconst 0, 1) := by decide +kernel
theorem dX9_wordKind_1 : decode cX9_wordKind 1 = .ok (.istore_n 3, 1) := by decide +kernel
theorem dX9_wordKind_2 : decode cX9_wordKind 2 = .ok (.iconst 0, 1) := by decide +kernel
theorem dX9_wordKind_3 : decode cX9_wordKind 3 = .ok (.istore 4, 2) := by decide +kernel
theorem dX9_wordKind_5 : decode cX9_wordKind 5 = .ok (.iconst 0, 1) := by decide +kernel
theorem dX9_wordKind_6 : decode cX9_wordKind 6 = .ok (.istore 5, 2) := by decide +kernel
theorem dX9_wordKind_8 : decode cX9_wordKind 8 = .ok (.iload 5, 2) := by decide +kernel
theorem dX9_wordKind_10 : decode cX9_wordKind 10 = .ok (.ldc 69, 2) := by decide +kernel
theorem dX9_wordKind_12 : decode cX9_wordKind 12 = .ok (.invokevirtual 71, 3) := by decide +kernel
theorem dX9_wordKind_15 : decode cX9_wordKind 15 = .ok (.if_icmp .ge 55, 3) := by decide +kernel
theorem dX9_wordKind_18 : decode cX9_wordKind 18 = .ok (.ldc 69, 2) := by decide +kernel
theorem dX9_wordKind_20 : decode cX9_wordKind 20 = .ok (.iload 5, 2) := by decide +kernel
theorem dX9_wordKind_22 : decode cX9_wordKind 22 = .ok (.invokevirtual 75, 3) := by decide +kernel
theorem dX9_wordKind_25 : decode cX9_wordKind 25 = .ok (.bipush 32, 2) := by decide +kernel
theorem dX9_wordKind_27 : decode cX9_wordKind 27 = .ok (.if_icmp .ne 37, 3) := by decide +kernel
theorem dX9_wordKind_30 : decode cX9_wordKind 30 = .ok (.iload 5, 2) := by decide +kernel
theorem dX9_wordKind_32 : decode cX9_wordKind 32 = .ok (.iload 4, 2) := by decide +kernel
theorem dX9_wordKind_34 : decode cX9_wordKind 34 = .ok (.isub, 1) := by decide +kernel
theorem dX9_wordKind_35 : decode cX9_wordKind 35 = .ok (.iload_n 2, 1) := by decide +kernel
theorem dX9_wordKind_36 : decode cX9_wordKind 36 = .ok (.iload_n 1, 1) := by decide +kernel
theorem dX9_wordKind_37 : decode cX9_wordKind 37 = .ok (.isub, 1) := by decide +kernel
theorem dX9_wordKind_38 : decode cX9_wordKind 38 = .ok (.if_icmp .ne 17, 3) := by decide +kernel
theorem dX9_wordKind_41 : decode cX9_wordKind 41 = .ok (.aload_n 0, 1) := by decide +kernel
theorem dX9_wordKind_42 : decode cX9_wordKind 42 = .ok (.iload_n 1, 1) := by decide +kernel
theorem dX9_wordKind_43 : decode cX9_wordKind 43 = .ok (.iload 4, 2) := by decide +kernel
theorem dX9_wordKind_45 : decode cX9_wordKind 45 = .ok (.iload 5, 2) := by decide +kernel
theorem dX9_wordKind_47 : decode cX9_wordKind 47 = .ok (.invokestatic 79, 3) := by decide +kernel
theorem dX9_wordKind_50 : decode cX9_wordKind 50 = .ok (.ifCond .eq 5, 3) := by decide +kernel
theorem dX9_wordKind_53 : decode cX9_wordKind 53 = .ok (.iload_n 3, 1) := by decide +kernel
theorem dX9_wordKind_54 : decode cX9_wordKind 54 = .ok (.ireturn, 1) := by decide +kernel
theorem dX9_wordKind_55 : decode cX9_wordKind 55 = .ok (.iinc 3 1, 3) := by decide +kernel
theorem dX9_wordKind_58 : decode cX9_wordKind 58 = .ok (.iload 5, 2) := by decide +kernel
theorem dX9_wordKind_60 : decode cX9_wordKind 60 = .ok (.iconst 1, 1) := by decide +kernel
theorem dX9_wordKind_61 : decode cX9_wordKind 61 = .ok (.iadd, 1) := by decide +kernel
theorem dX9_wordKind_62 : decode cX9_wordKind 62 = .ok (.istore 4, 2) := by decide +kernel
theorem dX9_wordKind_64 : decode cX9_wordKind 64 = .ok (.iinc 5 1, 3) := by decide +kernel
theorem dX9_wordKind_67 : decode cX9_wordKind 67 = .ok (.goto (-59), 3) := by decide +kernel
theorem dX9_wordKind_70 : decode cX9_wordKind 70 = .ok (.bipush 37, 2) := by decide +kernel
theorem dX9_wordKind_72 : decode cX9_wordKind 72 = .ok (.ireturn, 1) := by decide +kernel
theorem dX9_isSame_0 : decode cX9_isSame 0 = .ok (.iload_n 2, 1) := by decide +kernel
theorem dX9_isSame_1 : decode cX9_isSame 1 = .ok (.istore 4, 2) := by decide +kernel
theorem dX9_isSame_3 : decode cX9_isSame 3 = .ok (.iload 4, 2) := by decide +kernel
theorem dX9_isSame_5 : decode cX9_isSame 5 = .ok (.iload_n 3, 1) := by decide +kernel
theorem dX9_isSame_6 : decode cX9_isSame 6 = .ok (.if_icmp .ge 29, 3) := by decide +kernel
theorem dX9_isSame_9 : decode cX9_isSame 9 = .ok (.aload_n 0, 1) := by decide +kernel
theorem dX9_isSame_10 : decode cX9_isSame 10 = .ok (.iload_n 1, 1) := by decide +kernel
theorem dX9_isSame_11 : decode cX9_isSame 11 = .ok (.iload 4, 2) := by decide +kernel
theorem dX9_isSame_13 : decode cX9_isSame 13 = .ok (.iadd, 1) := by decide +kernel
theorem dX9_isSame_14 : decode cX9_isSame 14 = .ok (.iload_n 2, 1) := by decide +kernel
theorem dX9_isSame_15 : decode cX9_isSame 15 = .ok (.isub, 1) := by decide +kernel
theorem dX9_isSame_16 : decode cX9_isSame 16 = .ok (.baload, 1) := by decide +kernel
theorem dX9_isSame_17 : decode cX9_isSame 17 = .ok (.ldc 69, 2) := by decide +kernel
theorem dX9_isSame_19 : decode cX9_isSame 19 = .ok (.iload 4, 2) := by decide +kernel
theorem dX9_isSame_21 : decode cX9_isSame 21 = .ok (.invokevirtual 75, 3) := by decide +kernel
theorem dX9_isSame_24 : decode cX9_isSame 24 = .ok (.if_icmp .eq 5, 3) := by decide +kernel
theorem dX9_isSame_27 : decode cX9_isSame 27 = .ok (.iconst 0, 1) := by decide +kernel
theorem dX9_isSame_28 : decode cX9_isSame 28 = .ok (.ireturn, 1) := by decide +kernel
theorem dX9_isSame_29 : decode cX9_isSame 29 = .ok (.iinc 4 1, 3) := by decide +kernel
theorem dX9_isSame_32 : decode cX9_isSame 32 = .ok (.goto (-29), 3) := by decide +kernel
theorem dX9_isSame_35 : decode cX9_isSame 35 = .ok (.iconst 1, 1) := by decide +kernel
theorem dX9_isSame_36 : decode cX9_isSame 36 = .ok (.ireturn, 1) := by decide +kernel
theorem dX9_numberOf_0 : decode cX9_numberOf 0 = .ok (.aload_n 0, 1) := by decide +kernel
theorem dX9_numberOf_1 : decode cX9_numberOf 1 = .ok (.iload_n 1, 1) := by decide +kernel
theorem dX9_numberOf_2 : decode cX9_numberOf 2 = .ok (.baload, 1) := by decide +kernel
theorem dX9_numberOf_3 : decode cX9_numberOf 3 = .ok (.invokestatic 55, 3) := by decide +kernel
theorem dX9_numberOf_6 : decode cX9_numberOf 6 = .ok (.ifCond .eq 10, 3) := by decide +kernel
theorem dX9_numberOf_9 : decode cX9_numberOf 9 = .ok (.iload_n 2, 1) := by decide +kernel
theorem dX9_numberOf_10 : decode cX9_numberOf 10 = .ok (.iload_n 1, 1) := by decide +kernel
theorem dX9_numberOf_11 : decode cX9_numberOf 11 = .ok (.isub, 1) := by decide +kernel
theorem dX9_numberOf_12 : decode cX9_numberOf 12 = .ok (.iconst 5, 1) := by decide +kernel
theorem dX9_numberOf_13 : decode cX9_numberOf 13 = .ok (.if_icmp .le 5, 3) := by decide +kernel
theorem dX9_numberOf_16 : decode cX9_numberOf 16 = .ok (.iconst (-1), 1) := by decide +kernel
theorem dX9_numberOf_17 : decode cX9_numberOf 17 = .ok (.ireturn, 1) := by decide +kernel
theorem dX9_numberOf_18 : decode cX9_numberOf 18 = .ok (.iconst 0, 1) := by decide +kernel
theorem dX9_numberOf_19 : decode cX9_numberOf 19 = .ok (.istore_n 3, 1) := by decide +kernel
theorem dX9_numberOf_20 : decode cX9_numberOf 20 = .ok (.iload_n 1, 1) := by decide +kernel
theorem dX9_numberOf_21 : decode cX9_numberOf 21 = .ok (.istore 4, 2) := by decide +kernel
theorem dX9_numberOf_23 : decode cX9_numberOf 23 = .ok (.iload 4, 2) := by decide +kernel
theorem dX9_numberOf_25 : decode cX9_numberOf 25 = .ok (.iload_n 2, 1) := by decide +kernel
theorem dX9_numberOf_26 : decode cX9_numberOf 26 = .ok (.if_icmp .ge 22, 3) := by decide +kernel
theorem dX9_numberOf_29 : decode cX9_numberOf 29 = .ok (.iload_n 3, 1) := by decide +kernel
theorem dX9_numberOf_30 : decode cX9_numberOf 30 = .ok (.bipush 10, 2) := by decide +kernel
theorem dX9_numberOf_32 : decode cX9_numberOf 32 = .ok (.imul, 1) := by decide +kernel
theorem dX9_numberOf_33 : decode cX9_numberOf 33 = .ok (.aload_n 0, 1) := by decide +kernel
theorem dX9_numberOf_34 : decode cX9_numberOf 34 = .ok (.iload 4, 2) := by decide +kernel
theorem dX9_numberOf_36 : decode cX9_numberOf 36 = .ok (.baload, 1) := by decide +kernel
theorem dX9_numberOf_37 : decode cX9_numberOf 37 = .ok (.iadd, 1) := by decide +kernel
theorem dX9_numberOf_38 : decode cX9_numberOf 38 = .ok (.bipush 48, 2) := by decide +kernel
theorem dX9_numberOf_40 : decode cX9_numberOf 40 = .ok (.isub, 1) := by decide +kernel
theorem dX9_numberOf_41 : decode cX9_numberOf 41 = .ok (.istore_n 3, 1) := by decide +kernel
theorem dX9_numberOf_42 : decode cX9_numberOf 42 = .ok (.iinc 4 1, 3) := by decide +kernel
theorem dX9_numberOf_45 : decode cX9_numberOf 45 = .ok (.goto (-22), 3) := by decide +kernel
theorem dX9_numberOf_48 : decode cX9_numberOf 48 = .ok (.iload_n 3, 1) := by decide +kernel
theorem dX9_numberOf_49 : decode cX9_numberOf 49 = .ok (.ireturn, 1) := by decide +kernel
theorem dX9_kind_0 : decode cX9_kind 0 = .ok (.aload_n 0, 1) := by decide +kernel
theorem dX9_kind_1 : decode cX9_kind 1 = .ok (.getfield 25, 3) := by decide +kernel
theorem dX9_kind_4 : decode cX9_kind 4 = .ok (.aload_n 0, 1) := by decide +kernel
theorem dX9_kind_5 : decode cX9_kind 5 = .ok (.getfield 21, 3) := by decide +kernel
theorem dX9_kind_8 : decode cX9_kind 8 = .ok (.if_icmp .ge 15, 3) := by decide +kernel
theorem dX9_kind_11 : decode cX9_kind 11 = .ok (.aload_n 0, 1) := by decide +kernel
theorem dX9_kind_12 : decode cX9_kind 12 = .ok (.getfield 9, 3) := by decide +kernel
theorem dX9_kind_15 : decode cX9_kind 15 = .ok (.aload_n 0, 1) := by decide +kernel
theorem dX9_kind_16 : decode cX9_kind 16 = .ok (.getfield 25, 3) := by decide +kernel
theorem dX9_kind_19 : decode cX9_kind 19 = .ok (.iaload, 1) := by decide +kernel
theorem dX9_kind_20 : decode cX9_kind 20 = .ok (.goto 5, 3) := by decide +kernel
theorem dX9_kind_23 : decode cX9_kind 23 = .ok (.bipush 36, 2) := by decide +kernel
theorem dX9_kind_25 : decode cX9_kind 25 = .ok (.ireturn, 1) := by decide +kernel
theorem dX9_number_0 : decode cX9_number 0 = .ok (.aload_n 0, 1) := by decide +kernel
theorem dX9_number_1 : decode cX9_number 1 = .ok (.getfield 25, 3) := by decide +kernel
theorem dX9_number_4 : decode cX9_number 4 = .ok (.aload_n 0, 1) := by decide +kernel
theorem dX9_number_5 : decode cX9_number 5 = .ok (.getfield 21, 3) := by decide +kernel
theorem dX9_number_8 : decode cX9_number 8 = .ok (.if_icmp .ge 15, 3) := by decide +kernel
theorem dX9_number_11 : decode cX9_number 11 = .ok (.aload_n 0, 1) := by decide +kernel
theorem dX9_number_12 : decode cX9_number 12 = .ok (.getfield 18, 3) := by decide +kernel
theorem dX9_number_15 : decode cX9_number 15 = .ok (.aload_n 0, 1) := by decide +kernel
theorem dX9_number_16 : decode cX9_number 16 = .ok (.getfield 25, 3) := by decide +kernel
theorem dX9_number_19 : decode cX9_number 19 = .ok (.iaload, 1) := by decide +kernel
theorem dX9_number_20 : decode cX9_number 20 = .ok (.goto 4, 3) := by decide +kernel
theorem dX9_number_23 : decode cX9_number 23 = .ok (.iconst (-1), 1) := by decide +kernel
theorem dX9_number_24 : decode cX9_number 24 = .ok (.ireturn, 1) := by decide +kernel
theorem dX9_step_0 : decode cX9_step 0 = .ok (.aload_n 0, 1) := by decide +kernel
theorem dX9_step_1 : decode cX9_step 1 = .ok (.getfield 25, 3) := by decide +kernel
theorem dX9_step_4 : decode cX9_step 4 = .ok (.aload_n 0, 1) := by decide +kernel
theorem dX9_step_5 : decode cX9_step 5 = .ok (.getfield 21, 3) := by decide +kernel
theorem dX9_step_8 : decode cX9_step 8 = .ok (.iconst 1, 1) := by decide +kernel
theorem dX9_step_9 : decode cX9_step 9 = .ok (.isub, 1) := by decide +kernel
theorem dX9_step_10 : decode cX9_step 10 = .ok (.if_icmp .ge 13, 3) := by decide +kernel
theorem dX9_step_13 : decode cX9_step 13 = .ok (.aload_n 0, 1) := by decide +kernel
theorem dX9_step_14 : decode cX9_step 14 = .ok (.dup, 1) := by decide +kernel
theorem dX9_step_15 : decode cX9_step 15 = .ok (.getfield 25, 3) := by decide +kernel
theorem dX9_step_18 : decode cX9_step 18 = .ok (.iconst 1, 1) := by decide +kernel
theorem dX9_step_19 : decode cX9_step 19 = .ok (.iadd, 1) := by decide +kernel
theorem dX9_step_20 : decode cX9_step 20 = .ok (.putfield 25, 3) := by decide +kernel
theorem dX9_step_23 : decode cX9_step 23 = .ok (.return_, 1) := by decide +kernel
theorem dX9_fail_0 : decode cX9_fail 0 = .ok (.aload_n 0, 1) := by decide +kernel
theorem dX9_fail_1 : decode cX9_fail 1 = .ok (.getfield 25, 3) := by decide +kernel
theorem dX9_fail_4 : decode cX9_fail 4 = .ok (.aload_n 0, 1) := by decide +kernel
theorem dX9_fail_5 : decode cX9_fail 5 = .ok (.getfield 21, 3) := by decide +kernel
theorem dX9_fail_8 : decode cX9_fail 8 = .ok (.if_icmp .ge 15, 3) := by decide +kernel
theorem dX9_fail_11 : decode cX9_fail 11 = .ok (.aload_n 0, 1) := by decide +kernel
theorem dX9_fail_12 : decode cX9_fail 12 = .ok (.getfield 15, 3) := by decide +kernel
theorem dX9_fail_15 : decode cX9_fail 15 = .ok (.aload_n 0, 1) := by decide +kernel
theorem dX9_fail_16 : decode cX9_fail 16 = .ok (.getfield 25, 3) := by decide +kernel
theorem dX9_fail_19 : decode cX9_fail 19 = .ok (.iaload, 1) := by decide +kernel
theorem dX9_fail_20 : decode cX9_fail 20 = .ok (.goto 4, 3) := by decide +kernel
theorem dX9_fail_23 : decode cX9_fail 23 = .ok (.iconst 0, 1) := by decide +kernel
theorem dX9_fail_24 : decode cX9_fail 24 = .ok (.istore_n 2, 1) := by decide +kernel
theorem dX9_fail_25 : decode cX9_fail 25 = .ok (.aload_n 0, 1) := by decide +kernel
theorem dX9_fail_26 : decode cX9_fail 26 = .ok (.iconst 1, 1) := by decide +kernel
theorem dX9_fail_27 : decode cX9_fail 27 = .ok (.bipush 8, 2) := by decide +kernel
theorem dX9_fail_29 : decode cX9_fail 29 = .ok (.iload_n 2, 1) := by decide +kernel
theorem dX9_fail_30 : decode cX9_fail 30 = .ok (.imul, 1) := by decide +kernel
theorem dX9_fail_31 : decode cX9_fail 31 = .ok (.iadd, 1) := by decide +kernel
theorem dX9_fail_32 : decode cX9_fail 32 = .ok (.iload_n 1, 1) := by decide +kernel
theorem dX9_fail_33 : decode cX9_fail 33 = .ok (.iadd, 1) := by decide +kernel
theorem dX9_fail_34 : decode cX9_fail 34 = .ok (.putfield 28, 3) := by decide +kernel
theorem dX9_fail_37 : decode cX9_fail 37 = .ok (.iconst 0, 1) := by decide +kernel
theorem dX9_fail_38 : decode cX9_fail 38 = .ok (.ireturn, 1) := by decide +kernel
theorem dX9_takeNumber_0 : decode cX9_takeNumber 0 = .ok (.aload_n 0, 1) := by decide +kernel
theorem dX9_takeNumber_1 : decode cX9_takeNumber 1 = .ok (.invokevirtual 83, 3) := by decide +kernel
theorem dX9_takeNumber_4 : decode cX9_takeNumber 4 = .ok (.bipush 35, 2) := by decide +kernel
theorem dX9_takeNumber_6 : decode cX9_takeNumber 6 = .ok (.if_icmp .eq 11, 3) := by decide +kernel
theorem dX9_takeNumber_9 : decode cX9_takeNumber 9 = .ok (.aload_n 0, 1) := by decide +kernel
theorem dX9_takeNumber_10 : decode cX9_takeNumber 10 = .ok (.iconst 0, 1) := by decide +kernel
theorem dX9_takeNumber_11 : decode cX9_takeNumber 11 = .ok (.invokevirtual 86, 3) := by decide +kernel
theorem dX9_takeNumber_14 : decode cX9_takeNumber 14 = .ok (.pop, 1) := by decide +kernel
theorem dX9_takeNumber_15 : decode cX9_takeNumber 15 = .ok (.iconst (-1), 1) := by decide +kernel
theorem dX9_takeNumber_16 : decode cX9_takeNumber 16 = .ok (.ireturn, 1) := by decide +kernel
theorem dX9_takeNumber_17 : decode cX9_takeNumber 17 = .ok (.aload_n 0, 1) := by decide +kernel
theorem dX9_takeNumber_18 : decode cX9_takeNumber 18 = .ok (.invokevirtual 90, 3) := by decide +kernel
theorem dX9_takeNumber_21 : decode cX9_takeNumber 21 = .ok (.istore_n 3, 1) := by decide +kernel
theorem dX9_takeNumber_22 : decode cX9_takeNumber 22 = .ok (.iload_n 3, 1) := by decide +kernel
theorem dX9_takeNumber_23 : decode cX9_takeNumber 23 = .ok (.iload_n 1, 1) := by decide +kernel
theorem dX9_takeNumber_24 : decode cX9_takeNumber 24 = .ok (.if_icmp .lt 8, 3) := by decide +kernel
theorem dX9_takeNumber_27 : decode cX9_takeNumber 27 = .ok (.iload_n 3, 1) := by decide +kernel
theorem dX9_takeNumber_28 : decode cX9_takeNumber 28 = .ok (.iload_n 2, 1) := by decide +kernel
theorem dX9_takeNumber_29 : decode cX9_takeNumber 29 = .ok (.if_icmp .le 11, 3) := by decide +kernel
theorem dX9_takeNumber_32 : decode cX9_takeNumber 32 = .ok (.aload_n 0, 1) := by decide +kernel
theorem dX9_takeNumber_33 : decode cX9_takeNumber 33 = .ok (.iconst 1, 1) := by decide +kernel
theorem dX9_takeNumber_34 : decode cX9_takeNumber 34 = .ok (.invokevirtual 86, 3) := by decide +kernel
theorem dX9_takeNumber_37 : decode cX9_takeNumber 37 = .ok (.pop, 1) := by decide +kernel
theorem dX9_takeNumber_38 : decode cX9_takeNumber 38 = .ok (.iconst (-1), 1) := by decide +kernel
theorem dX9_takeNumber_39 : decode cX9_takeNumber 39 = .ok (.ireturn, 1) := by decide +kernel
theorem dX9_takeNumber_40 : decode cX9_takeNumber 40 = .ok (.aload_n 0, 1) := by decide +kernel
theorem dX9_takeNumber_41 : decode cX9_takeNumber 41 = .ok (.invokevirtual 93, 3) := by decide +kernel
theorem dX9_takeNumber_44 : decode cX9_takeNumber 44 = .ok (.iload_n 3, 1) := by decide +kernel
theorem dX9_takeNumber_45 : decode cX9_takeNumber 45 = .ok (.ireturn, 1) := by decide +kernel
theorem dX10_init_0 : decode cX10_init 0 = .ok (.aload_n 0, 1) := by decide +kernel
theorem dX10_init_1 : decode cX10_init 1 = .ok (.invokespecial 3, 3) := by decide +kernel
theorem dX10_init_4 : decode cX10_init 4 = .ok (.aload_n 0, 1) := by decide +kernel
theorem dX10_init_5 : decode cX10_init 5 = .ok (.new 9, 3) := by decide +kernel
theorem dX10_init_8 : decode cX10_init 8 = .ok (.dup, 1) := by decide +kernel
theorem dX10_init_9 : decode cX10_init 9 = .ok (.invokespecial 11, 3) := by decide +kernel
theorem dX10_init_12 : decode cX10_init 12 = .ok (.putfield 12, 3) := by decide +kernel
theorem dX10_init_15 : decode cX10_init 15 = .ok (.aload_n 0, 1) := by decide +kernel
theorem dX10_init_16 : decode cX10_init 16 = .ok (.new 18, 3) := by decide +kernel
theorem dX10_init_19 : decode cX10_init 19 = .ok (.dup, 1) := by decide +kernel
theorem dX10_init_20 : decode cX10_init 20 = .ok (.invokespecial 20, 3) := by decide +kernel
theorem dX10_init_23 : decode cX10_init 23 = .ok (.putfield 21, 3) := by decide +kernel
theorem dX10_init_26 : decode cX10_init 26 = .ok (.aload_n 0, 1) := by decide +kernel
theorem dX10_init_27 : decode cX10_init 27 = .ok (.bipush 20, 2) := by decide +kernel
theorem dX10_init_29 : decode cX10_init 29 = .ok (.anewarray 18, 3) := by decide +kernel
