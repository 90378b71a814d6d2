theorem dX0_init_0 : decode cX0_init 0 = .ok (.aload_n 0, 1) := by decide +kernel
theorem dX0_init_1 : decode cX0_init 1 = .ok (.invokespecial 3, 3) := by decide +kernel
theorem dX0_init_4 : decode cX0_init 4 = .ok (.aload_n 0, 1) := by decide +kernel
theorem dX0_init_5 : decode cX0_init 5 = .ok (.sipush 1024, 3) := by decide +kernel
theorem dX0_init_8 : decode cX0_init 8 = .ok (.newarray .int, 2) := by decide +kernel
theorem dX0_init_10 : decode cX0_init 10 = .ok (.putfield 9, 3) := by decide +kernel
theorem dX0_init_13 : decode cX0_init 13 = .ok (.return_, 1) := by decide +kernel
theorem dX0_fewestBites_0 : decode cX0_fewestBites 0 = .ok (.iload_n 2, 1) := by decide +kernel
theorem dX0_fewestBites_1 : decode cX0_fewestBites 1 = .ok (.ifCond .ne 5, 3) := by decide +kernel
theorem dX0_fewestBites_4 : decode cX0_fewestBites 4 = .ok (.iconst 0, 1) := by decide +kernel
theorem dX0_fewestBites_5 : decode cX0_fewestBites 5 = .ok (.ireturn, 1) := by decide +kernel
theorem dX0_fewestBites_6 : decode cX0_fewestBites 6 = .ok (.iload_n 1, 1) := by decide +kernel
theorem dX0_fewestBites_7 : decode cX0_fewestBites 7 = .ok (.ifCond .ne 5, 3) := by decide +kernel
theorem dX0_fewestBites_10 : decode cX0_fewestBites 10 = .ok (.iconst (-1), 1) := by decide +kernel
theorem dX0_fewestBites_11 : decode cX0_fewestBites 11 = .ok (.ireturn, 1) := by decide +kernel
theorem dX0_fewestBites_12 : decode cX0_fewestBites 12 = .ok (.iconst 1, 1) := by decide +kernel
theorem dX0_fewestBites_13 : decode cX0_fewestBites 13 = .ok (.istore_n 3, 1) := by decide +kernel
theorem dX0_fewestBites_14 : decode cX0_fewestBites 14 = .ok (.iload_n 3, 1) := by decide +kernel
theorem dX0_fewestBites_15 : decode cX0_fewestBites 15 = .ok (.iload_n 2, 1) := by decide +kernel
theorem dX0_fewestBites_16 : decode cX0_fewestBites 16 = .ok (.if_icmp .gt 111, 3) := by decide +kernel
theorem dX0_fewestBites_19 : decode cX0_fewestBites 19 = .ok (.iload_n 3, 1) := by decide +kernel
theorem dX0_fewestBites_20 : decode cX0_fewestBites 20 = .ok (.sipush 1023, 3) := by decide +kernel
theorem dX0_fewestBites_23 : decode cX0_fewestBites 23 = .ok (.if_icmp .gt 104, 3) := by decide +kernel
theorem dX0_fewestBites_26 : decode cX0_fewestBites 26 = .ok (.iload_n 3, 1) := by decide +kernel
theorem dX0_fewestBites_27 : decode cX0_fewestBites 27 = .ok (.iload_n 3, 1) := by decide +kernel
theorem dX0_fewestBites_28 : decode cX0_fewestBites 28 = .ok (.ineg, 1) := by decide +kernel
theorem dX0_fewestBites_29 : decode cX0_fewestBites 29 = .ok (.iand, 1) := by decide +kernel
theorem dX0_fewestBites_30 : decode cX0_fewestBites 30 = .ok (.iconst 1, 1) := by decide +kernel
theorem dX0_fewestBites_31 : decode cX0_fewestBites 31 = .ok (.isub, 1) := by decide +kernel
theorem dX0_fewestBites_32 : decode cX0_fewestBites 32 = .ok (.invokestatic 15, 3) := by decide +kernel
theorem dX0_fewestBites_35 : decode cX0_fewestBites 35 = .ok (.istore 4, 2) := by decide +kernel
theorem dX0_fewestBites_37 : decode cX0_fewestBites 37 = .ok (.sipush 1023, 3) := by decide +kernel
theorem dX0_fewestBites_40 : decode cX0_fewestBites 40 = .ok (.istore 5, 2) := by decide +kernel
theorem dX0_fewestBites_42 : decode cX0_fewestBites 42 = .ok (.iconst 0, 1) := by decide +kernel
theorem dX0_fewestBites_43 : decode cX0_fewestBites 43 = .ok (.istore 6, 2) := by decide +kernel
theorem dX0_fewestBites_45 : decode cX0_fewestBites 45 = .ok (.iload 6, 2) := by decide +kernel
theorem dX0_fewestBites_47 : decode cX0_fewestBites 47 = .ok (.bipush 7, 2) := by decide +kernel
theorem dX0_fewestBites_49 : decode cX0_fewestBites 49 = .ok (.if_icmp .ge 64, 3) := by decide +kernel
theorem dX0_fewestBites_52 : decode cX0_fewestBites 52 = .ok (.iload_n 1, 1) := by decide +kernel
theorem dX0_fewestBites_53 : decode cX0_fewestBites 53 = .ok (.iload 6, 2) := by decide +kernel
theorem dX0_fewestBites_55 : decode cX0_fewestBites 55 = .ok (.ishr, 1) := by decide +kernel
theorem dX0_fewestBites_56 : decode cX0_fewestBites 56 = .ok (.iconst 1, 1) := by decide +kernel
theorem dX0_fewestBites_57 : decode cX0_fewestBites 57 = .ok (.iand, 1) := by decide +kernel
theorem dX0_fewestBites_58 : decode cX0_fewestBites 58 = .ok (.ifCond .eq 49, 3) := by decide +kernel
theorem dX0_fewestBites_61 : decode cX0_fewestBites 61 = .ok (.iload 4, 2) := by decide +kernel
theorem dX0_fewestBites_63 : decode cX0_fewestBites 63 = .ok (.iload 6, 2) := by decide +kernel
theorem dX0_fewestBites_65 : decode cX0_fewestBites 65 = .ok (.if_icmp .lt 13, 3) := by decide +kernel
theorem dX0_fewestBites_68 : decode cX0_fewestBites 68 = .ok (.iload_n 1, 1) := by decide +kernel
theorem dX0_fewestBites_69 : decode cX0_fewestBites 69 = .ok (.iload 4, 2) := by decide +kernel
theorem dX0_fewestBites_71 : decode cX0_fewestBites 71 = .ok (.iload 6, 2) := by decide +kernel
theorem dX0_fewestBites_73 : decode cX0_fewestBites 73 = .ok (.isub, 1) := by decide +kernel
theorem dX0_fewestBites_74 : decode cX0_fewestBites 74 = .ok (.ishl, 1) := by decide +kernel
theorem dX0_fewestBites_75 : decode cX0_fewestBites 75 = .ok (.goto 10, 3) := by decide +kernel
theorem dX0_fewestBites_78 : decode cX0_fewestBites 78 = .ok (.iload_n 1, 1) := by decide +kernel
theorem dX0_fewestBites_79 : decode cX0_fewestBites 79 = .ok (.iload 6, 2) := by decide +kernel
theorem dX0_fewestBites_81 : decode cX0_fewestBites 81 = .ok (.iload 4, 2) := by decide +kernel
theorem dX0_fewestBites_83 : decode cX0_fewestBites 83 = .ok (.isub, 1) := by decide +kernel
theorem dX0_fewestBites_84 : decode cX0_fewestBites 84 = .ok (.ishr, 1) := by decide +kernel
theorem dX0_fewestBites_85 : decode cX0_fewestBites 85 = .ok (.istore 7, 2) := by decide +kernel
theorem dX0_fewestBites_87 : decode cX0_fewestBites 87 = .ok (.iload 5, 2) := by decide +kernel
theorem dX0_fewestBites_89 : decode cX0_fewestBites 89 = .ok (.iconst 1, 1) := by decide +kernel
theorem dX0_fewestBites_90 : decode cX0_fewestBites 90 = .ok (.aload_n 0, 1) := by decide +kernel
theorem dX0_fewestBites_91 : decode cX0_fewestBites 91 = .ok (.getfield 9, 3) := by decide +kernel
theorem dX0_fewestBites_94 : decode cX0_fewestBites 94 = .ok (.iload_n 3, 1) := by decide +kernel
theorem dX0_fewestBites_95 : decode cX0_fewestBites 95 = .ok (.iload 7, 2) := by decide +kernel
theorem dX0_fewestBites_97 : decode cX0_fewestBites 97 = .ok (.iconst (-1), 1) := by decide +kernel
theorem dX0_fewestBites_98 : decode cX0_fewestBites 98 = .ok (.ixor, 1) := by decide +kernel
theorem dX0_fewestBites_99 : decode cX0_fewestBites 99 = .ok (.iand, 1) := by decide +kernel
theorem dX0_fewestBites_100 : decode cX0_fewestBites 100 = .ok (.iaload, 1) := by decide +kernel
theorem dX0_fewestBites_101 : decode cX0_fewestBites 101 = .ok (.iadd, 1) := by decide +kernel
theorem dX0_fewestBites_102 : decode cX0_fewestBites 102 = .ok (.invokestatic 21, 3) := by decide +kernel
theorem dX0_fewestBites_105 : decode cX0_fewestBites 105 = .ok (.istore 5, 2) := by decide +kernel
theorem dX0_fewestBites_107 : decode cX0_fewestBites 107 = .ok (.iinc 6 1, 3) := by decide +kernel
theorem dX0_fewestBites_110 : decode cX0_fewestBites 110 = .ok (.goto (-65), 3) := by decide +kernel
theorem dX0_fewestBites_113 : decode cX0_fewestBites 113 = .ok (.aload_n 0, 1) := by decide +kernel
theorem dX0_fewestBites_114 : decode cX0_fewestBites 114 = .ok (.getfield 9, 3) := by decide +kernel
theorem dX0_fewestBites_117 : decode cX0_fewestBites 117 = .ok (.iload_n 3, 1) := by decide +kernel
theorem dX0_fewestBites_118 : decode cX0_fewestBites 118 = .ok (.iload 5, 2) := by decide +kernel
theorem dX0_fewestBites_120 : decode cX0_fewestBites 120 = .ok (.iastore, 1) := by decide +kernel
theorem dX0_fewestBites_121 : decode cX0_fewestBites 121 = .ok (.iinc 3 1, 3) := by decide +kernel
theorem dX0_fewestBites_124 : decode cX0_fewestBites 124 = .ok (.goto (-110), 3) := by decide +kernel
theorem dX0_fewestBites_127 : decode cX0_fewestBites 127 = .ok (.iload_n 2, 1) := by decide +kernel
theorem dX0_fewestBites_128 : decode cX0_fewestBites 128 = .ok (.sipush 1023, 3) := by decide +kernel
theorem dX0_fewestBites_131 : decode cX0_fewestBites 131 = .ok (.if_icmp .gt 12, 3) := by decide +kernel
theorem dX0_fewestBites_134 : decode cX0_fewestBites 134 = .ok (.aload_n 0, 1) := by decide +kernel
theorem dX0_fewestBites_135 : decode cX0_fewestBites 135 = .ok (.getfield 9, 3) := by decide +kernel
theorem dX0_fewestBites_138 : decode cX0_fewestBites 138 = .ok (.iload_n 2, 1) := by decide +kernel
theorem dX0_fewestBites_139 : decode cX0_fewestBites 139 = .ok (.iaload, 1) := by decide +kernel
theorem dX0_fewestBites_140 : decode cX0_fewestBites 140 = .ok (.goto 4, 3) := by decide +kernel
theorem dX0_fewestBites_143 : decode cX0_fewestBites 143 = .ok (.iconst (-1), 1) := by decide +kernel
theorem dX0_fewestBites_144 : decode cX0_fewestBites 144 = .ok (.ireturn, 1) := by decide +kernel
theorem dX1_init_0 : decode cX1_init 0 = .ok (.aload_n 0, 1) := by decide +kernel
theorem dX1_init_1 : decode cX1_init 1 = .ok (.invokespecial 3, 3) := by decide +kernel
theorem dX1_init_4 : decode cX1_init 4 = .ok (.return_, 1) := by decide +kernel
theorem dX1_come_0 : decode cX1_come 0 = .ok (.aload_n 0, 1) := by decide +kernel
theorem dX1_come_1 : decode cX1_come 1 = .ok (.iload_n 1, 1) := by decide +kernel
theorem dX1_come_2 : decode cX1_come 2 = .ok (.putfield 9, 3) := by decide +kernel
theorem dX1_come_5 : decode cX1_come 5 = .ok (.aload_n 0, 1) := by decide +kernel
theorem dX1_come_6 : decode cX1_come 6 = .ok (.iload_n 2, 1) := by decide +kernel
theorem dX1_come_7 : decode cX1_come 7 = .ok (.putfield 15, 3) := by decide +kernel
theorem dX1_come_10 : decode cX1_come 10 = .ok (.aload_n 0, 1) := by decide +kernel
theorem dX1_come_11 : decode cX1_come 11 = .ok (.iload_n 3, 1) := by decide +kernel
theorem dX1_come_12 : decode cX1_come 12 = .ok (.putfield 18, 3) := by decide +kernel
theorem dX1_come_15 : decode cX1_come 15 = .ok (.aload_n 0, 1) := by decide +kernel
theorem dX1_come_16 : decode cX1_come 16 = .ok (.bipush 100, 2) := by decide +kernel
theorem dX1_come_18 : decode cX1_come 18 = .ok (.putfield 21, 3) := by decide +kernel
theorem dX1_come_21 : decode cX1_come 21 = .ok (.aload_n 0, 1) := by decide +kernel
theorem dX1_come_22 : decode cX1_come 22 = .ok (.iconst 0, 1) := by decide +kernel
theorem dX1_come_23 : decode cX1_come 23 = .ok (.putfield 24, 3) := by decide +kernel
theorem dX1_come_26 : decode cX1_come 26 = .ok (.return_, 1) := by decide +kernel
theorem dX1_become_0 : decode cX1_become 0 = .ok (.aload_n 0, 1) := by decide +kernel
theorem dX1_become_1 : decode cX1_become 1 = .ok (.aload_n 1, 1) := by decide +kernel
theorem dX1_become_2 : decode cX1_become 2 = .ok (.getfield 9, 3) := by decide +kernel
theorem dX1_become_5 : decode cX1_become 5 = .ok (.putfield 9, 3) := by decide +kernel
theorem dX1_become_8 : decode cX1_become 8 = .ok (.aload_n 0, 1) := by decide +kernel
theorem dX1_become_9 : decode cX1_become 9 = .ok (.aload_n 1, 1) := by decide +kernel
theorem dX1_become_10 : decode cX1_become 10 = .ok (.getfield 15, 3) := by decide +kernel
theorem dX1_become_13 : decode cX1_become 13 = .ok (.putfield 15, 3) := by decide +kernel
theorem dX1_become_16 : decode cX1_become 16 = .ok (.aload_n 0, 1) := by decide +kernel
theorem dX1_become_17 : decode cX1_become 17 = .ok (.aload_n 1, 1) := by decide +kernel
theorem dX1_become_18 : decode cX1_become 18 = .ok (.getfield 18, 3) := by decide +kernel
theorem dX1_become_21 : decode cX1_become 21 = .ok (.putfield 18, 3) := by decide +kernel
theorem dX1_become_24 : decode cX1_become 24 = .ok (.aload_n 0, 1) := by decide +kernel
theorem dX1_become_25 : decode cX1_become 25 = .ok (.aload_n 1, 1) := by decide +kernel
theorem dX1_become_26 : decode cX1_become 26 = .ok (.getfield 21, 3) := by decide +kernel
theorem dX1_become_29 : decode cX1_become 29 = .ok (.putfield 21, 3) := by decide +kernel
theorem dX1_become_32 : decode cX1_become 32 = .ok (.aload_n 0, 1) := by decide +kernel
theorem dX1_become_33 : decode cX1_become 33 = .ok (.aload_n 1, 1) := by decide +kernel
theorem dX1_become_34 : decode cX1_become 34 = .ok (.getfield 24, 3) := by decide +kernel
theorem dX1_become_37 : decode cX1_become 37 = .ok (.putfield 24, 3) := by decide +kernel
theorem dX1_become_40 : decode cX1_become 40 = .ok (.return_, 1) := by decide +kernel
theorem dX1_isOf_0 : decode cX1_isOf 0 = .ok (.iload_n 1, 1) := by decide +kernel
theorem dX1_isOf_1 : decode cX1_isOf 1 = .ok (.ifCond .eq 37, 3) := by decide +kernel
theorem dX1_isOf_4 : decode cX1_isOf 4 = .ok (.iload_n 1, 1) := by decide +kernel
theorem dX1_isOf_5 : decode cX1_isOf 5 = .ok (.aload_n 0, 1) := by decide +kernel
theorem dX1_isOf_6 : decode cX1_isOf 6 = .ok (.getfield 9, 3) := by decide +kernel
theorem dX1_isOf_9 : decode cX1_isOf 9 = .ok (.if_icmp .eq 29, 3) := by decide +kernel
theorem dX1_isOf_12 : decode cX1_isOf 12 = .ok (.iload_n 1, 1) := by decide +kernel
theorem dX1_isOf_13 : decode cX1_isOf 13 = .ok (.iconst 1, 1) := by decide +kernel
theorem dX1_isOf_14 : decode cX1_isOf 14 = .ok (.if_icmp .ne 11, 3) := by decide +kernel
theorem dX1_isOf_17 : decode cX1_isOf 17 = .ok (.aload_n 0, 1) := by decide +kernel
theorem dX1_isOf_18 : decode cX1_isOf 18 = .ok (.getfield 9, 3) := by decide +kernel
theorem dX1_isOf_21 : decode cX1_isOf 21 = .ok (.iconst 3, 1) := by decide +kernel
theorem dX1_isOf_22 : decode cX1_isOf 22 = .ok (.if_icmp .eq 16, 3) := by decide +kernel
theorem dX1_isOf_25 : decode cX1_isOf 25 = .ok (.iload_n 1, 1) := by decide +kernel
theorem dX1_isOf_26 : decode cX1_isOf 26 = .ok (.iconst 2, 1) := by decide +kernel
theorem dX1_isOf_27 : decode cX1_isOf 27 = .ok (.if_icmp .ne 15, 3) := by decide +kernel
theorem dX1_isOf_30 : decode cX1_isOf 30 = .ok (.aload_n 0, 1) := by decide +kernel
theorem dX1_isOf_31 : decode cX1_isOf 31 = .ok (.getfield 9, 3) := by decide +kernel
theorem dX1_isOf_34 : decode cX1_isOf 34 = .ok (.iconst 4, 1) := by decide +kernel
theorem dX1_isOf_35 : decode cX1_isOf 35 = .ok (.if_icmp .ne 7, 3) := by decide +kernel
theorem dX1_isOf_38 : decode cX1_isOf 38 = .ok (.iconst 1, 1) := by decide +kernel
theorem dX1_isOf_39 : decode cX1_isOf 39 = .ok (.goto 4, 3) := by decide +kernel
theorem dX1_isOf_42 : decode cX1_isOf 42 = .ok (.iconst 0, 1) := by decide +kernel
theorem dX1_isOf_43 : decode cX1_isOf 43 = .ok (.ireturn, 1) := by decide +kernel
theorem dX1_markOf_0 : decode cX1_markOf 0 = .ok (.aload_n 0, 1) := by decide +kernel
theorem dX1_markOf_1 : decode cX1_markOf 1 = .ok (.aload_n 1, 1) := by decide +kernel
theorem dX1_markOf_2 : decode cX1_markOf 2 = .ok (.invokevirtual 27, 3) := by decide +kernel
theorem dX1_markOf_5 : decode cX1_markOf 5 = .ok (.istore_n 3, 1) := by decide +kernel
theorem dX1_markOf_6 : decode cX1_markOf 6 = .ok (.iload_n 2, 1) := by decide +kernel
theorem dX1_markOf_7 : decode cX1_markOf 7 = .ok (.bipush 6, 2) := by decide +kernel
theorem dX1_markOf_9 : decode cX1_markOf 9 = .ok (.isub, 1) := by decide +kernel
theorem dX1_markOf_10 : decode cX1_markOf 10 = .ok (.istore 4, 2) := by decide +kernel
theorem dX1_markOf_12 : decode cX1_markOf 12 = .ok (.iload 4, 2) := by decide +kernel
theorem dX1_markOf_14 : decode cX1_markOf 14 = .ok (.ifCond .lt 10, 3) := by decide +kernel
theorem dX1_markOf_17 : decode cX1_markOf 17 = .ok (.iload_n 3, 1) := by decide +kernel
theorem dX1_markOf_18 : decode cX1_markOf 18 = .ok (.iload 4, 2) := by decide +kernel
theorem dX1_markOf_20 : decode cX1_markOf 20 = .ok (.ishl, 1) := by decide +kernel
theorem dX1_markOf_21 : decode cX1_markOf 21 = .ok (.goto 8, 3) := by decide +kernel
theorem dX1_markOf_24 : decode cX1_markOf 24 = .ok (.iload_n 3, 1) := by decide +kernel
theorem dX1_markOf_25 : decode cX1_markOf 25 = .ok (.iload 4, 2) := by decide +kernel
theorem dX1_markOf_27 : decode cX1_markOf 27 = .ok (.ineg, 1) := by decide +kernel
theorem dX1_markOf_28 : decode cX1_markOf 28 = .ok (.ishr, 1) := by decide +kernel
theorem dX1_markOf_29 : decode cX1_markOf 29 = .ok (.aload_n 1, 1) := by decide +kernel
theorem dX1_markOf_30 : decode cX1_markOf 30 = .ok (.getfield 31, 3) := by decide +kernel
theorem dX1_markOf_33 : decode cX1_markOf 33 = .ok (.iand, 1) := by decide +kernel
theorem dX1_markOf_34 : decode cX1_markOf 34 = .ok (.ireturn, 1) := by decide +kernel
theorem dX1_canLeave_0 : decode cX1_canLeave 0 = .ok (.iconst 0, 1) := by decide +kernel
theorem dX1_canLeave_1 : decode cX1_canLeave 1 = .ok (.istore_n 3, 1) := by decide +kernel
theorem dX1_canLeave_2 : decode cX1_canLeave 2 = .ok (.iload_n 3, 1) := by decide +kernel
theorem dX1_canLeave_3 : decode cX1_canLeave 3 = .ok (.bipush 16, 2) := by decide +kernel
theorem dX1_canLeave_5 : decode cX1_canLeave 5 = .ok (.if_icmp .ge 21, 3) := by decide +kernel
theorem dX1_canLeave_8 : decode cX1_canLeave 8 = .ok (.aload_n 0, 1) := by decide +kernel
theorem dX1_canLeave_9 : decode cX1_canLeave 9 = .ok (.aload_n 1, 1) := by decide +kernel
theorem dX1_canLeave_10 : decode cX1_canLeave 10 = .ok (.iload_n 3, 1) := by decide +kernel
theorem dX1_canLeave_11 : decode cX1_canLeave 11 = .ok (.invokevirtual 36, 3) := by decide +kernel
theorem dX1_canLeave_14 : decode cX1_canLeave 14 = .ok (.iload_n 2, 1) := by decide +kernel
theorem dX1_canLeave_15 : decode cX1_canLeave 15 = .ok (.if_icmp .ne 5, 3) := by decide +kernel
theorem dX1_canLeave_18 : decode cX1_canLeave 18 = .ok (.iconst 1, 1) := by decide +kernel
theorem dX1_canLeave_19 : decode cX1_canLeave 19 = .ok (.ireturn, 1) := by decide +kernel
theorem dX1_canLeave_20 : decode cX1_canLeave 20 = .ok (.iinc 3 1, 3) := by decide +kernel
theorem dX1_canLeave_23 : decode cX1_canLeave 23 = .ok (.goto (-21), 3) := by decide +kernel
theorem dX1_canLeave_26 : decode cX1_canLeave 26 = .ok (.iconst 0, 1) := by decide +kernel
theorem dX1_canLeave_27 : decode cX1_canLeave 27 = .ok (.ireturn, 1) := by decide +kernel
theorem dX1_shapeIn_0 : decode cX1_shapeIn 0 = .ok (.aload_n 0, 1) := by decide +kernel
theorem dX1_shapeIn_1 : decode cX1_shapeIn 1 = .ok (.getfield 18, 3) := by decide +kernel
theorem dX1_shapeIn_4 : decode cX1_shapeIn 4 = .ok (.aload_n 0, 1) := by decide +kernel
theorem dX1_shapeIn_5 : decode cX1_shapeIn 5 = .ok (.getfield 18, 3) := by decide +kernel
theorem dX1_shapeIn_8 : decode cX1_shapeIn 8 = .ok (.iconst 1, 1) := by decide +kernel
theorem dX1_shapeIn_9 : decode cX1_shapeIn 9 = .ok (.ishl, 1) := by decide +kernel
theorem dX1_shapeIn_10 : decode cX1_shapeIn 10 = .ok (.ior, 1) := by decide +kernel
theorem dX1_shapeIn_11 : decode cX1_shapeIn 11 = .ok (.istore_n 2, 1) := by decide +kernel
theorem dX1_shapeIn_12 : decode cX1_shapeIn 12 = .ok (.aload_n 0, 1) := by decide +kernel
theorem dX1_shapeIn_13 : decode cX1_shapeIn 13 = .ok (.getfield 9, 3) := by decide +kernel
theorem dX1_shapeIn_16 : decode cX1_shapeIn 16 = .ok (.tableswitch 71 1 5 #[36, 43, 38, 43, 60], 36) := by decide +kernel
theorem dX1_shapeIn_52 : decode cX1_shapeIn 52 = .ok (.iload_n 2, 1) := by decide +kernel
theorem dX1_shapeIn_53 : decode cX1_shapeIn 53 = .ok (.ireturn, 1) := by decide +kernel
theorem dX1_shapeIn_54 : decode cX1_shapeIn 54 = .ok (.iload_n 2, 1) := by decide +kernel
theorem dX1_shapeIn_55 : decode cX1_shapeIn 55 = .ok (.iload_n 2, 1) := by decide +kernel
theorem dX1_shapeIn_56 : decode cX1_shapeIn 56 = .ok (.ineg, 1) := by decide +kernel
theorem dX1_shapeIn_57 : decode cX1_shapeIn 57 = .ok (.iand, 1) := by decide +kernel
theorem dX1_shapeIn_58 : decode cX1_shapeIn 58 = .ok (.ireturn, 1) := by decide +kernel
theorem dX1_shapeIn_59 : decode cX1_shapeIn 59 = .ok (.aload_n 1, 1) := by decide +kernel
theorem dX1_shapeIn_60 : decode cX1_shapeIn 60 = .ok (.getfield 40, 3) := by decide +kernel
theorem dX1_shapeIn_63 : decode cX1_shapeIn 63 = .ok (.iconst 5, 1) := by decide +kernel
theorem dX1_shapeIn_64 : decode cX1_shapeIn 64 = .ok (.if_icmp .ge 7, 3) := by decide +kernel
theorem dX1_shapeIn_67 : decode cX1_shapeIn 67 = .ok (.iconst 0, 1) := by decide +kernel
theorem dX1_shapeIn_68 : decode cX1_shapeIn 68 = .ok (.goto 7, 3) := by decide +kernel
theorem dX1_shapeIn_71 : decode cX1_shapeIn 71 = .ok (.aload_n 0, 1) := by decide +kernel
theorem dX1_shapeIn_72 : decode cX1_shapeIn 72 = .ok (.getfield 18, 3) := by decide +kernel
theorem dX1_shapeIn_75 : decode cX1_shapeIn 75 = .ok (.ireturn, 1) := by decide +kernel
theorem dX1_shapeIn_76 : decode cX1_shapeIn 76 = .ok (.iconst 2, 1) := by decide +kernel
theorem dX1_shapeIn_77 : decode cX1_shapeIn 77 = .ok (.aload_n 0, 1) := by decide +kernel
theorem dX1_shapeIn_78 : decode cX1_shapeIn 78 = .ok (.getfield 15, 3) := by decide +kernel
theorem dX1_shapeIn_81 : decode cX1_shapeIn 81 = .ok (.iconst 2, 1) := by decide +kernel
theorem dX1_shapeIn_82 : decode cX1_shapeIn 82 = .ok (.idiv, 1) := by decide +kernel
theorem dX1_shapeIn_83 : decode cX1_shapeIn 83 = .ok (.ishl, 1) := by decide +kernel
theorem dX1_shapeIn_84 : decode cX1_shapeIn 84 = .ok (.iconst 1, 1) := by decide +kernel
theorem dX1_shapeIn_85 : decode cX1_shapeIn 85 = .ok (.isub, 1) := by decide +kernel
theorem dX1_shapeIn_86 : decode cX1_shapeIn 86 = .ok (.ireturn, 1) := by decide +kernel
theorem dX1_shapeIn_87 : decode cX1_shapeIn 87 = .ok (.aload_n 0, 1) := by decide +kernel
theorem dX1_shapeIn_88 : decode cX1_shapeIn 88 = .ok (.getfield 18, 3) := by decide +kernel
theorem dX1_shapeIn_91 : decode cX1_shapeIn 91 = .ok (.ireturn, 1) := by decide +kernel
theorem dX1_paysFor_0 : decode cX1_paysFor 0 = .ok (.aload_n 1, 1) := by decide +kernel
theorem dX1_paysFor_1 : decode cX1_paysFor 1 = .ok (.getfield 40, 3) := by decide +kernel
theorem dX1_paysFor_4 : decode cX1_paysFor 4 = .ok (.bipush 6, 2) := by decide +kernel
theorem dX1_paysFor_6 : decode cX1_paysFor 6 = .ok (.if_icmp .le 7, 3) := by decide +kernel
theorem dX1_paysFor_9 : decode cX1_paysFor 9 = .ok (.iconst 0, 1) := by decide +kernel
theorem dX1_paysFor_10 : decode cX1_paysFor 10 = .ok (.goto 4, 3) := by decide +kernel
theorem dX1_paysFor_13 : decode cX1_paysFor 13 = .ok (.iload_n 2, 1) := by decide +kernel
theorem dX1_paysFor_14 : decode cX1_paysFor 14 = .ok (.istore_n 3, 1) := by decide +kernel
theorem dX1_paysFor_15 : decode cX1_paysFor 15 = .ok (.aload_n 0, 1) := by decide +kernel
theorem dX1_paysFor_16 : decode cX1_paysFor 16 = .ok (.getfield 9, 3) := by decide +kernel
theorem dX1_paysFor_19 : decode cX1_paysFor 19 = .ok (.tableswitch 44 2 5 #[29, 44, 31, 40], 29) := by decide +kernel
theorem dX1_paysFor_48 : decode cX1_paysFor 48 = .ok (.iload_n 3, 1) := by decide +kernel
theorem dX1_paysFor_49 : decode cX1_paysFor 49 = .ok (.ireturn, 1) := by decide +kernel
theorem dX1_paysFor_50 : decode cX1_paysFor 50 = .ok (.iload_n 3, 1) := by decide +kernel
theorem dX1_paysFor_51 : decode cX1_paysFor 51 = .ok (.aload_n 0, 1) := by decide +kernel
theorem dX1_paysFor_52 : decode cX1_paysFor 52 = .ok (.getfield 15, 3) := by decide +kernel
theorem dX1_paysFor_55 : decode cX1_paysFor 55 = .ok (.iconst 3, 1) := by decide +kernel
theorem dX1_paysFor_56 : decode cX1_paysFor 56 = .ok (.idiv, 1) := by decide +kernel
theorem dX1_paysFor_57 : decode cX1_paysFor 57 = .ok (.iadd, 1) := by decide +kernel
theorem dX1_paysFor_58 : decode cX1_paysFor 58 = .ok (.ireturn, 1) := by decide +kernel
theorem dX1_paysFor_59 : decode cX1_paysFor 59 = .ok (.iload_n 2, 1) := by decide +kernel
theorem dX1_paysFor_60 : decode cX1_paysFor 60 = .ok (.iconst 3, 1) := by decide +kernel
theorem dX1_paysFor_61 : decode cX1_paysFor 61 = .ok (.iadd, 1) := by decide +kernel
theorem dX1_paysFor_62 : decode cX1_paysFor 62 = .ok (.ireturn, 1) := by decide +kernel
theorem dX1_paysFor_63 : decode cX1_paysFor 63 = .ok (.iload_n 2, 1) := by decide +kernel
theorem dX1_paysFor_64 : decode cX1_paysFor 64 = .ok (.ireturn, 1) := by decide +kernel
theorem dX1_likesCell_0 : decode cX1_likesCell 0 = .ok (.aload_n 0, 1) := by decide +kernel
theorem dX1_likesCell_1 : decode cX1_likesCell 1 = .ok (.getfield 9, 3) := by decide +kernel
theorem dX1_likesCell_4 : decode cX1_likesCell 4 = .ok (.lookupswitch 39 #[(3, 28), (4, 35)], 28) := by decide +kernel
theorem dX1_likesCell_32 : decode cX1_likesCell 32 = .ok (.iload_n 1, 1) := by decide +kernel
theorem dX1_likesCell_33 : decode cX1_likesCell 33 = .ok (.aload_n 0, 1) := by decide +kernel
theorem dX1_likesCell_34 : decode cX1_likesCell 34 = .ok (.getfield 15, 3) := by decide +kernel
theorem dX1_likesCell_37 : decode cX1_likesCell 37 = .ok (.iadd, 1) := by decide +kernel
theorem dX1_likesCell_38 : decode cX1_likesCell 38 = .ok (.ireturn, 1) := by decide +kernel
theorem dX1_likesCell_39 : decode cX1_likesCell 39 = .ok (.iconst 2, 1) := by decide +kernel
theorem dX1_likesCell_40 : decode cX1_likesCell 40 = .ok (.iload_n 1, 1) := by decide +kernel
theorem dX1_likesCell_41 : decode cX1_likesCell 41 = .ok (.imul, 1) := by decide +kernel
theorem dX1_likesCell_42 : decode cX1_likesCell 42 = .ok (.ireturn, 1) := by decide +kernel
theorem dX1_likesCell_43 : decode cX1_likesCell 43 = .ok (.iload_n 1, 1) := by decide +kernel
theorem dX1_likesCell_44 : decode cX1_likesCell 44 = .ok (.ireturn, 1) := by decide +kernel
theorem dX1_swallow_0 : decode cX1_swallow 0 = .ok (.aload_n 0, 1) := by decide +kernel
theorem dX1_swallow_1 : decode cX1_swallow 1 = .ok (.aload_n 0, 1) := by decide +kernel
theorem dX1_swallow_2 : decode cX1_swallow 2 = .ok (.getfield 24, 3) := by decide +kernel
theorem dX1_swallow_5 : decode cX1_swallow 5 = .ok (.iload_n 3, 1) := by decide +kernel
theorem dX1_swallow_6 : decode cX1_swallow 6 = .ok (.iadd, 1) := by decide +kernel
theorem dX1_swallow_7 : decode cX1_swallow 7 = .ok (.sipush 9999, 3) := by decide +kernel
theorem dX1_swallow_10 : decode cX1_swallow 10 = .ok (.invokestatic 43, 3) := by decide +kernel
theorem dX1_swallow_13 : decode cX1_swallow 13 = .ok (.putfield 24, 3) := by decide +kernel
theorem dX1_swallow_16 : decode cX1_swallow 16 = .ok (.aload_n 0, 1) := by decide +kernel
theorem dX1_swallow_17 : decode cX1_swallow 17 = .ok (.dup, 1) := by decide +kernel
theorem dX1_swallow_18 : decode cX1_swallow 18 = .ok (.getfield 21, 3) := by decide +kernel
theorem dX1_swallow_21 : decode cX1_swallow 21 = .ok (.iload 4, 2) := by decide +kernel
theorem dX1_swallow_23 : decode cX1_swallow 23 = .ok (.isub, 1) := by decide +kernel
theorem dX1_swallow_24 : decode cX1_swallow 24 = .ok (.putfield 21, 3) := by decide +kernel
theorem dX1_swallow_27 : decode cX1_swallow 27 = .ok (.aload_n 1, 1) := by decide +kernel
theorem dX1_swallow_28 : decode cX1_swallow 28 = .ok (.dup, 1) := by decide +kernel
theorem dX1_swallow_29 : decode cX1_swallow 29 = .ok (.getfield 31, 3) := by decide +kernel
theorem dX1_swallow_32 : decode cX1_swallow 32 = .ok (.iload_n 2, 1) := by decide +kernel
theorem dX1_swallow_33 : decode cX1_swallow 33 = .ok (.iconst (-1), 1) := by decide +kernel
theorem dX1_swallow_34 : decode cX1_swallow 34 = .ok (.ixor, 1) := by decide +kernel
theorem dX1_swallow_35 : decode cX1_swallow 35 = .ok (.iand, 1) := by decide +kernel
theorem dX1_swallow_36 : decode cX1_swallow 36 = .ok (.putfield 31, 3) := by decide +kernel
theorem dX1_swallow_39 : decode cX1_swallow 39 = .ok (.return_, 1) := by decide +kernel
theorem dX1_giveBack_0 : decode cX1_giveBack 0 = .ok (.aload_n 1, 1) := by decide +kernel
theorem dX1_giveBack_1 : decode cX1_giveBack 1 = .ok (.iload_n 2, 1) := by decide +kernel
theorem dX1_giveBack_2 : decode cX1_giveBack 2 = .ok (.putfield 31, 3) := by decide +kernel
theorem dX1_giveBack_5 : decode cX1_giveBack 5 = .ok (.aload_n 0, 1) := by decide +kernel
theorem dX1_giveBack_6 : decode cX1_giveBack 6 = .ok (.iload_n 3, 1) := by decide +kernel
theorem dX1_giveBack_7 : decode cX1_giveBack 7 = .ok (.putfield 21, 3) := by decide +kernel
theorem dX1_giveBack_10 : decode cX1_giveBack 10 = .ok (.aload_n 0, 1) := by decide +kernel
theorem dX1_giveBack_11 : decode cX1_giveBack 11 = .ok (.iload 4, 2) := by decide +kernel
theorem dX1_giveBack_13 : decode cX1_giveBack 13 = .ok (.putfield 24, 3) := by decide +kernel
theorem dX1_giveBack_16 : decode cX1_giveBack 16 = .ok (.return_, 1) := by decide +kernel
theorem dX2_init_0 : decode cX2_init 0 = .ok (.aload_n 0, 1) := by decide +kernel
theorem dX2_init_1 : decode cX2_init 1 = .ok (.invokespecial 3, 3) := by decide +kernel
theorem dX2_init_4 : decode cX2_init 4 = .ok (.aload_n 0, 1) := by decide +kernel
theorem dX2_init_5 : decode cX2_init 5 = .ok (.new 9, 3) := by decide +kernel
theorem dX2_init_8 : decode cX2_init 8 = .ok (.dup, 1) := by decide +kernel
theorem dX2_init_9 : decode cX2_init 9 = .ok (.invokespecial 11, 3) := by decide +kernel
theorem dX2_init_12 : decode cX2_init 12 = .ok (.putfield 12, 3) := by decide +kernel
theorem dX2_init_15 : decode cX2_init 15 = .ok (.return_, 1) := by decide +kernel
theorem dX2_findTeeth_0 : decode cX2_findTeeth 0 = .ok (.aload_n 0, 1) := by decide +kernel
theorem dX2_findTeeth_1 : decode cX2_findTeeth 1 = .ok (.getfield 12, 3) := by decide +kernel
theorem dX2_findTeeth_4 : decode cX2_findTeeth 4 = .ok (.aload_n 2, 1) := by decide +kernel
theorem dX2_findTeeth_5 : decode cX2_findTeeth 5 = .ok (.invokevirtual 18, 3) := by decide +kernel
theorem dX2_findTeeth_8 : decode cX2_findTeeth 8 = .ok (.aload_n 1, 1) := by decide +kernel
theorem dX2_findTeeth_9 : decode cX2_findTeeth 9 = .ok (.aload_n 0, 1) := by decide +kernel
theorem dX2_findTeeth_10 : decode cX2_findTeeth 10 = .ok (.getfield 12, 3) := by decide +kernel
theorem dX2_findTeeth_13 : decode cX2_findTeeth 13 = .ok (.invokevirtual 22, 3) := by decide +kernel
theorem dX2_findTeeth_16 : decode cX2_findTeeth 16 = .ok (.aload_n 0, 1) := by decide +kernel
theorem dX2_findTeeth_17 : decode cX2_findTeeth 17 = .ok (.aload_n 1, 1) := by decide +kernel
theorem dX2_findTeeth_18 : decode cX2_findTeeth 18 = .ok (.getfield 27, 3) := by decide +kernel
theorem dX2_findTeeth_21 : decode cX2_findTeeth 21 = .ok (.putfield 31, 3) := by decide +kernel
theorem dX2_findTeeth_24 : decode cX2_findTeeth 24 = .ok (.iconst (-1), 1) := by decide +kernel
theorem dX2_findTeeth_25 : decode cX2_findTeeth 25 = .ok (.istore_n 3, 1) := by decide +kernel
theorem dX2_findTeeth_26 : decode cX2_findTeeth 26 = .ok (.iconst 1, 1) := by decide +kernel
theorem dX2_findTeeth_27 : decode cX2_findTeeth 27 = .ok (.istore 4, 2) := by decide +kernel
theorem dX2_findTeeth_29 : decode cX2_findTeeth 29 = .ok (.iload 4, 2) := by decide +kernel
theorem dX2_findTeeth_31 : decode cX2_findTeeth 31 = .ok (.iconst 5, 1) := by decide +kernel
theorem dX2_findTeeth_32 : decode cX2_findTeeth 32 = .ok (.if_icmp .gt 60, 3) := by decide +kernel
theorem dX2_findTeeth_35 : decode cX2_findTeeth 35 = .ok (.aload_n 0, 1) := by decide +kernel
theorem dX2_findTeeth_36 : decode cX2_findTeeth 36 = .ok (.getfield 12, 3) := by decide +kernel
theorem dX2_findTeeth_39 : decode cX2_findTeeth 39 = .ok (.iconst 5, 1) := by decide +kernel
theorem dX2_findTeeth_40 : decode cX2_findTeeth 40 = .ok (.putfield 34, 3) := by decide +kernel
theorem dX2_findTeeth_43 : decode cX2_findTeeth 43 = .ok (.aload_n 0, 1) := by decide +kernel
theorem dX2_findTeeth_44 : decode cX2_findTeeth 44 = .ok (.getfield 12, 3) := by decide +kernel
theorem dX2_findTeeth_47 : decode cX2_findTeeth 47 = .ok (.iconst 2, 1) := by decide +kernel
theorem dX2_findTeeth_48 : decode cX2_findTeeth 48 = .ok (.iload 4, 2) := by decide +kernel
theorem dX2_findTeeth_50 : decode cX2_findTeeth 50 = .ok (.imul, 1) := by decide +kernel
theorem dX2_findTeeth_51 : decode cX2_findTeeth 51 = .ok (.iconst 2, 1) := by decide +kernel
theorem dX2_findTeeth_52 : decode cX2_findTeeth 52 = .ok (.isub, 1) := by decide +kernel
theorem dX2_findTeeth_53 : decode cX2_findTeeth 53 = .ok (.putfield 37, 3) := by decide +kernel
theorem dX2_findTeeth_56 : decode cX2_findTeeth 56 = .ok (.aload_n 1, 1) := by decide +kernel
theorem dX2_findTeeth_57 : decode cX2_findTeeth 57 = .ok (.aload_n 0, 1) := by decide +kernel
theorem dX2_findTeeth_58 : decode cX2_findTeeth 58 = .ok (.getfield 12, 3) := by decide +kernel
theorem dX2_findTeeth_61 : decode cX2_findTeeth 61 = .ok (.invokevirtual 22, 3) := by decide +kernel
theorem dX2_findTeeth_64 : decode cX2_findTeeth 64 = .ok (.aload_n 1, 1) := by decide +kernel
theorem dX2_findTeeth_65 : decode cX2_findTeeth 65 = .ok (.getfield 27, 3) := by decide +kernel
theorem dX2_findTeeth_68 : decode cX2_findTeeth 68 = .ok (.aload_n 0, 1) := by decide +kernel
theorem dX2_findTeeth_69 : decode cX2_findTeeth 69 = .ok (.getfield 31, 3) := by decide +kernel
theorem dX2_findTeeth_72 : decode cX2_findTeeth 72 = .ok (.if_icmp .le 14, 3) := by decide +kernel
theorem dX2_findTeeth_75 : decode cX2_findTeeth 75 = .ok (.aload_n 0, 1) := by decide +kernel
theorem dX2_findTeeth_76 : decode cX2_findTeeth 76 = .ok (.aload_n 1, 1) := by decide +kernel
theorem dX2_findTeeth_77 : decode cX2_findTeeth 77 = .ok (.getfield 27, 3) := by decide +kernel
theorem dX2_findTeeth_80 : decode cX2_findTeeth 80 = .ok (.putfield 31, 3) := by decide +kernel
theorem dX2_findTeeth_83 : decode cX2_findTeeth 83 = .ok (.iload 4, 2) := by decide +kernel
theorem dX2_findTeeth_85 : decode cX2_findTeeth 85 = .ok (.istore_n 3, 1) := by decide +kernel
theorem dX2_findTeeth_86 : decode cX2_findTeeth 86 = .ok (.iinc 4 1, 3) := by decide +kernel
theorem dX2_findTeeth_89 : decode cX2_findTeeth 89 = .ok (.goto (-60), 3) := by decide +kernel
theorem dX2_findTeeth_92 : decode cX2_findTeeth 92 = .ok (.iload_n 3, 1) := by decide +kernel
theorem dX2_findTeeth_93 : decode cX2_findTeeth 93 = .ok (.ireturn, 1) := by decide +kernel
theorem dX2_kindsLeaving_0 : decode cX2_kindsLeaving 0 = .ok (.iconst 0, 1) := by decide +kernel
theorem dX2_kindsLeaving_1 : decode cX2_kindsLeaving 1 = .ok (.istore 4, 2) := by decide +kernel
theorem dX2_kindsLeaving_3 : decode cX2_kindsLeaving 3 = .ok (.aload_n 0, 1) := by decide +kernel
theorem dX2_kindsLeaving_4 : decode cX2_kindsLeaving 4 = .ok (.getfield 12, 3) := by decide +kernel
theorem dX2_kindsLeaving_7 : decode cX2_kindsLeaving 7 = .ok (.aload_n 1, 1) := by decide +kernel
theorem dX2_kindsLeaving_8 : decode cX2_kindsLeaving 8 = .ok (.invokevirtual 18, 3) := by decide +kernel
theorem dX2_kindsLeaving_11 : decode cX2_kindsLeaving 11 = .ok (.iconst 0, 1) := by decide +kernel
theorem dX2_kindsLeaving_12 : decode cX2_kindsLeaving 12 = .ok (.istore 5, 2) := by decide +kernel
theorem dX2_kindsLeaving_14 : decode cX2_kindsLeaving 14 = .ok (.iload 5, 2) := by decide +kernel
theorem dX2_kindsLeaving_16 : decode cX2_kindsLeaving 16 = .ok (.bipush 6, 2) := by decide +kernel
theorem dX2_kindsLeaving_18 : decode cX2_kindsLeaving 18 = .ok (.if_icmp .ge 39, 3) := by decide +kernel
theorem dX2_kindsLeaving_21 : decode cX2_kindsLeaving 21 = .ok (.aload_n 0, 1) := by decide +kernel
theorem dX2_kindsLeaving_22 : decode cX2_kindsLeaving 22 = .ok (.getfield 12, 3) := by decide +kernel
theorem dX2_kindsLeaving_25 : decode cX2_kindsLeaving 25 = .ok (.iload 5, 2) := by decide +kernel
theorem dX2_kindsLeaving_27 : decode cX2_kindsLeaving 27 = .ok (.putfield 34, 3) := by decide +kernel
theorem dX2_kindsLeaving_30 : decode cX2_kindsLeaving 30 = .ok (.aload_n 0, 1) := by decide +kernel
theorem dX2_kindsLeaving_31 : decode cX2_kindsLeaving 31 = .ok (.getfield 12, 3) := by decide +kernel
theorem dX2_kindsLeaving_34 : decode cX2_kindsLeaving 34 = .ok (.aload_n 2, 1) := by decide +kernel
theorem dX2_kindsLeaving_35 : decode cX2_kindsLeaving 35 = .ok (.iload_n 3, 1) := by decide +kernel
theorem dX2_kindsLeaving_36 : decode cX2_kindsLeaving 36 = .ok (.invokevirtual 40, 3) := by decide +kernel
theorem dX2_kindsLeaving_39 : decode cX2_kindsLeaving 39 = .ok (.ifCond .eq 12, 3) := by decide +kernel
theorem dX2_kindsLeaving_42 : decode cX2_kindsLeaving 42 = .ok (.iload 4, 2) := by decide +kernel
theorem dX2_kindsLeaving_44 : decode cX2_kindsLeaving 44 = .ok (.iconst 1, 1) := by decide +kernel
theorem dX2_kindsLeaving_45 : decode cX2_kindsLeaving 45 = .ok (.iload 5, 2) := by decide +kernel
theorem dX2_kindsLeaving_47 : decode cX2_kindsLeaving 47 = .ok (.ishl, 1) := by decide +kernel
theorem dX2_kindsLeaving_48 : decode cX2_kindsLeaving 48 = .ok (.ior, 1) := by decide +kernel
theorem dX2_kindsLeaving_49 : decode cX2_kindsLeaving 49 = .ok (.istore 4, 2) := by decide +kernel
theorem dX2_kindsLeaving_51 : decode cX2_kindsLeaving 51 = .ok (.iinc 5 1, 3) := by decide +kernel
theorem dX2_kindsLeaving_54 : decode cX2_kindsLeaving 54 = .ok (.goto (-40), 3) := by decide +kernel
theorem dX2_kindsLeaving_57 : decode cX2_kindsLeaving 57 = .ok (.iload 4, 2) := by decide +kernel
theorem dX2_kindsLeaving_59 : decode cX2_kindsLeaving 59 = .ok (.ireturn, 1) := by decide +kernel
theorem dX2_moresLeaving_0 : decode cX2_moresLeaving 0 = .ok (.iconst 0, 1) := by decide +kernel
theorem dX2_moresLeaving_1 : decode cX2_moresLeaving 1 = .ok (.istore 4, 2) := by decide +kernel
theorem dX2_moresLeaving_3 : decode cX2_moresLeaving 3 = .ok (.aload_n 0, 1) := by decide +kernel
theorem dX2_moresLeaving_4 : decode cX2_moresLeaving 4 = .ok (.getfield 12, 3) := by decide +kernel
theorem dX2_moresLeaving_7 : decode cX2_moresLeaving 7 = .ok (.aload_n 1, 1) := by decide +kernel
theorem dX2_moresLeaving_8 : decode cX2_moresLeaving 8 = .ok (.invokevirtual 18, 3) := by decide +kernel
theorem dX2_moresLeaving_11 : decode cX2_moresLeaving 11 = .ok (.iconst 0, 1) := by decide +kernel
theorem dX2_moresLeaving_12 : decode cX2_moresLeaving 12 = .ok (.istore 5, 2) := by decide +kernel
theorem dX2_moresLeaving_14 : decode cX2_moresLeaving 14 = .ok (.iload 5, 2) := by decide +kernel
theorem dX2_moresLeaving_16 : decode cX2_moresLeaving 16 = .ok (.bipush 10, 2) := by decide +kernel
theorem dX2_moresLeaving_18 : decode cX2_moresLeaving 18 = .ok (.if_icmp .ge 39, 3) := by decide +kernel
theorem dX2_moresLeaving_21 : decode cX2_moresLeaving 21 = .ok (.aload_n 0, 1) := by decide +kernel
theorem dX2_moresLeaving_22 : decode cX2_moresLeaving 22 = .ok (.getfield 12, 3) := by decide +kernel
theorem dX2_moresLeaving_25 : decode cX2_moresLeaving 25 = .ok (.iload 5, 2) := by decide +kernel
theorem dX2_moresLeaving_27 : decode cX2_moresLeaving 27 = .ok (.putfield 37, 3) := by decide +kernel
theorem dX2_moresLeaving_30 : decode cX2_moresLeaving 30 = .ok (.aload_n 0, 1) := by decide +kernel
theorem dX2_moresLeaving_31 : decode cX2_moresLeaving 31 = .ok (.getfield 12, 3) := by decide +kernel
theorem dX2_moresLeaving_34 : decode cX2_moresLeaving 34 = .ok (.aload_n 2, 1) := by decide +kernel
theorem dX2_moresLeaving_35 : decode cX2_moresLeaving 35 = .ok (.iload_n 3, 1) := by decide +kernel
theorem dX2_moresLeaving_36 : decode cX2_moresLeaving 36 = .ok (.invokevirtual 40, 3) := by decide +kernel
theorem dX2_moresLeaving_39 : decode cX2_moresLeaving 39 = .ok (.ifCond .eq 12, 3) := by decide +kernel
theorem dX2_moresLeaving_42 : decode cX2_moresLeaving 42 = .ok (.iload 4, 2) := by decide +kernel
theorem dX2_moresLeaving_44 : decode cX2_moresLeaving 44 = .ok (.iconst 1, 1) := by decide +kernel
theorem dX2_moresLeaving_45 : decode cX2_moresLeaving 45 = .ok (.iload 5, 2) := by decide +kernel
theorem dX2_moresLeaving_47 : decode cX2_moresLeaving 47 = .ok (.ishl, 1) := by decide +kernel
theorem dX2_moresLeaving_48 : decode cX2_moresLeaving 48 = .ok (.ior, 1) := by decide +kernel
theorem dX2_moresLeaving_49 : decode cX2_moresLeaving 49 = .ok (.istore 4, 2) := by decide +kernel
theorem dX2_moresLeaving_51 : decode cX2_moresLeaving 51 = .ok (.iinc 5 1, 3) := by decide +kernel
theorem dX2_moresLeaving_54 : decode cX2_moresLeaving 54 = .ok (.goto (-40), 3) := by decide +kernel
theorem dX2_moresLeaving_57 : decode cX2_moresLeaving 57 = .ok (.iload 4, 2) := by decide +kernel
theorem dX2_moresLeaving_59 : decode cX2_moresLeaving 59 = .ok (.ireturn, 1) := by decide +kernel
theorem dX2_countJaws_0 : decode cX2_countJaws 0 = .ok (.iconst 0, 1) := by decide +kernel
theorem dX2_countJaws_1 : decode cX2_countJaws 1 = .ok (.istore 4, 2) := by decide +kernel
theorem dX2_countJaws_3 : decode cX2_countJaws 3 = .ok (.aload_n 0, 1) := by decide +kernel
theorem dX2_countJaws_4 : decode cX2_countJaws 4 = .ok (.getfield 12, 3) := by decide +kernel
theorem dX2_countJaws_7 : decode cX2_countJaws 7 = .ok (.aload_n 1, 1) := by decide +kernel
theorem dX2_countJaws_8 : decode cX2_countJaws 8 = .ok (.invokevirtual 18, 3) := by decide +kernel
theorem dX2_countJaws_11 : decode cX2_countJaws 11 = .ok (.iconst 1, 1) := by decide +kernel
theorem dX2_countJaws_12 : decode cX2_countJaws 12 = .ok (.istore 5, 2) := by decide +kernel
theorem dX2_countJaws_14 : decode cX2_countJaws 14 = .ok (.iload 5, 2) := by decide +kernel
theorem dX2_countJaws_16 : decode cX2_countJaws 16 = .ok (.bipush 63, 2) := by decide +kernel
theorem dX2_countJaws_18 : decode cX2_countJaws 18 = .ok (.if_icmp .gt 33, 3) := by decide +kernel
theorem dX2_countJaws_21 : decode cX2_countJaws 21 = .ok (.aload_n 0, 1) := by decide +kernel
theorem dX2_countJaws_22 : decode cX2_countJaws 22 = .ok (.getfield 12, 3) := by decide +kernel
theorem dX2_countJaws_25 : decode cX2_countJaws 25 = .ok (.iload 5, 2) := by decide +kernel
theorem dX2_countJaws_27 : decode cX2_countJaws 27 = .ok (.putfield 44, 3) := by decide +kernel
theorem dX2_countJaws_30 : decode cX2_countJaws 30 = .ok (.aload_n 0, 1) := by decide +kernel
theorem dX2_countJaws_31 : decode cX2_countJaws 31 = .ok (.getfield 12, 3) := by decide +kernel
theorem dX2_countJaws_34 : decode cX2_countJaws 34 = .ok (.aload_n 2, 1) := by decide +kernel
theorem dX2_countJaws_35 : decode cX2_countJaws 35 = .ok (.iload_n 3, 1) := by decide +kernel
theorem dX2_countJaws_36 : decode cX2_countJaws 36 = .ok (.invokevirtual 40, 3) := by decide +kernel
theorem dX2_countJaws_39 : decode cX2_countJaws 39 = .ok (.ifCond .eq 6, 3) := by decide +kernel
theorem dX2_countJaws_42 : decode cX2_countJaws 42 = .ok (.iinc 4 1, 3) := by decide +kernel
theorem dX2_countJaws_45 : decode cX2_countJaws 45 = .ok (.iinc 5 1, 3) := by decide +kernel
theorem dX2_countJaws_48 : decode cX2_countJaws 48 = .ok (.goto (-34), 3) := by decide +kernel
theorem dX2_countJaws_51 : decode cX2_countJaws 51 = .ok (.iload 4, 2) := by decide +kernel
theorem dX2_countJaws_53 : decode cX2_countJaws 53 = .ok (.ireturn, 1) := by decide +kernel
theorem dX2_leastJaw_0 : decode cX2_leastJaw 0 = .ok (.aload_n 0, 1) := by decide +kernel
theorem dX2_leastJaw_1 : decode cX2_leastJaw 1 = .ok (.getfield 12, 3) := by decide +kernel
theorem dX2_leastJaw_4 : decode cX2_leastJaw 4 = .ok (.aload_n 1, 1) := by decide +kernel
theorem dX2_leastJaw_5 : decode cX2_leastJaw 5 = .ok (.invokevirtual 18, 3) := by decide +kernel
theorem dX2_leastJaw_8 : decode cX2_leastJaw 8 = .ok (.iconst 1, 1) := by decide +kernel
theorem dX2_leastJaw_9 : decode cX2_leastJaw 9 = .ok (.istore 4, 2) := by decide +kernel
theorem dX2_leastJaw_11 : decode cX2_leastJaw 11 = .ok (.iload 4, 2) := by decide +kernel
theorem dX2_leastJaw_13 : decode cX2_leastJaw 13 = .ok (.bipush 63, 2) := by decide +kernel
theorem dX2_leastJaw_15 : decode cX2_leastJaw 15 = .ok (.if_icmp .gt 33, 3) := by decide +kernel
theorem dX2_leastJaw_18 : decode cX2_leastJaw 18 = .ok (.aload_n 0, 1) := by decide +kernel
theorem dX2_leastJaw_19 : decode cX2_leastJaw 19 = .ok (.getfield 12, 3) := by decide +kernel
theorem dX2_leastJaw_22 : decode cX2_leastJaw 22 = .ok (.iload 4, 2) := by decide +kernel
theorem dX2_leastJaw_24 : decode cX2_leastJaw 24 = .ok (.putfield 44, 3) := by decide +kernel
theorem dX2_leastJaw_27 : decode cX2_leastJaw 27 = .ok (.aload_n 0, 1) := by decide +kernel
theorem dX2_leastJaw_28 : decode cX2_leastJaw 28 = .ok (.getfield 12, 3) := by decide +kernel
theorem dX2_leastJaw_31 : decode cX2_leastJaw 31 = .ok (.aload_n 2, 1) := by decide +kernel
theorem dX2_leastJaw_32 : decode cX2_leastJaw 32 = .ok (.iload_n 3, 1) := by decide +kernel
theorem dX2_leastJaw_33 : decode cX2_leastJaw 33 = .ok (.invokevirtual 40, 3) := by decide +kernel
theorem dX2_leastJaw_36 : decode cX2_leastJaw 36 = .ok (.ifCond .eq 6, 3) := by decide +kernel
theorem dX2_leastJaw_39 : decode cX2_leastJaw 39 = .ok (.iload 4, 2) := by decide +kernel
theorem dX2_leastJaw_41 : decode cX2_leastJaw 41 = .ok (.ireturn, 1) := by decide +kernel
theorem dX2_leastJaw_42 : decode cX2_leastJaw 42 = .ok (.iinc 4 1, 3) := by decide +kernel
theorem dX2_leastJaw_45 : decode cX2_leastJaw 45 = .ok (.goto (-34), 3) := by decide +kernel
theorem dX2_leastJaw_48 : decode cX2_leastJaw 48 = .ok (.iconst (-1), 1) := by decide +kernel
theorem dX2_leastJaw_49 : decode cX2_leastJaw 49 = .ok (.ireturn, 1) := by decide +kernel
theorem dX3_init_0 : decode cX3_init 0 = .ok (.aload_n 0, 1) := by decide +kernel
theorem dX3_init_1 : decode cX3_init 1 = .ok (.invokespecial 3, 3) := by decide +kernel
theorem dX3_init_4 : decode cX3_init 4 = .ok (.aload_n 0, 1) := by decide +kernel
theorem dX3_init_5 : decode cX3_init 5 = .ok (.bipush 10, 2) := by decide +kernel
theorem dX3_init_7 : decode cX3_init 7 = .ok (.newarray .int, 2) := by decide +kernel
theorem dX3_init_9 : decode cX3_init 9 = .ok (.putfield 9, 3) := by decide +kernel
theorem dX3_init_12 : decode cX3_init 12 = .ok (.return_, 1) := by decide +kernel
theorem dX3_mostOf_0 : decode cX3_mostOf 0 = .ok (.iload_n 0, 1) := by decide +kernel
theorem dX3_mostOf_1 : decode cX3_mostOf 1 = .ok (.bipush 10, 2) := by decide +kernel
theorem dX3_mostOf_3 : decode cX3_mostOf 3 = .ok (.if_icmp .ne 6, 3) := by decide +kernel
theorem dX3_mostOf_6 : decode cX3_mostOf 6 = .ok (.bipush 9, 2) := by decide +kernel
theorem dX3_mostOf_8 : decode cX3_mostOf 8 = .ok (.ireturn, 1) := by decide +kernel
theorem dX3_mostOf_9 : decode cX3_mostOf 9 = .ok (.iload_n 0, 1) := by decide +kernel
theorem dX3_mostOf_10 : decode cX3_mostOf 10 = .ok (.bipush 11, 2) := by decide +kernel
theorem dX3_mostOf_12 : decode cX3_mostOf 12 = .ok (.if_icmp .ne 9, 3) := by decide +kernel
theorem dX3_mostOf_15 : decode cX3_mostOf 15 = .ok (.sipush 1023, 3) := by decide +kernel
theorem dX3_mostOf_18 : decode cX3_mostOf 18 = .ok (.goto 5, 3) := by decide +kernel
theorem dX3_mostOf_21 : decode cX3_mostOf 21 = .ok (.bipush 99, 2) := by decide +kernel
theorem dX3_mostOf_23 : decode cX3_mostOf 23 = .ok (.ireturn, 1) := by decide +kernel
theorem dX3_come_0 : decode cX3_come 0 = .ok (.iconst 0, 1) := by decide +kernel
theorem dX3_come_1 : decode cX3_come 1 = .ok (.istore_n 3, 1) := by decide +kernel
theorem dX3_come_2 : decode cX3_come 2 = .ok (.iload_n 3, 1) := by decide +kernel
theorem dX3_come_3 : decode cX3_come 3 = .ok (.bipush 10, 2) := by decide +kernel
theorem dX3_come_5 : decode cX3_come 5 = .ok (.if_icmp .ge 16, 3) := by decide +kernel
theorem dX3_come_8 : decode cX3_come 8 = .ok (.aload_n 0, 1) := by decide +kernel
theorem dX3_come_9 : decode cX3_come 9 = .ok (.getfield 9, 3) := by decide +kernel
theorem dX3_come_12 : decode cX3_come 12 = .ok (.iload_n 3, 1) := by decide +kernel
theorem dX3_come_13 : decode cX3_come 13 = .ok (.iload_n 2, 1) := by decide +kernel
theorem dX3_come_14 : decode cX3_come 14 = .ok (.iastore, 1) := by decide +kernel
theorem dX3_come_15 : decode cX3_come 15 = .ok (.iinc 3 1, 3) := by decide +kernel
theorem dX3_come_18 : decode cX3_come 18 = .ok (.goto (-16), 3) := by decide +kernel
theorem dX3_come_21 : decode cX3_come 21 = .ok (.aload_n 0, 1) := by decide +kernel
theorem dX3_come_22 : decode cX3_come 22 = .ok (.iload_n 1, 1) := by decide +kernel
theorem dX3_come_23 : decode cX3_come 23 = .ok (.putfield 15, 3) := by decide +kernel
theorem dX3_come_26 : decode cX3_come 26 = .ok (.aload_n 0, 1) := by decide +kernel
theorem dX3_come_27 : decode cX3_come 27 = .ok (.sipush 1023, 3) := by decide +kernel
theorem dX3_come_30 : decode cX3_come 30 = .ok (.putfield 19, 3) := by decide +kernel
theorem dX3_come_33 : decode cX3_come 33 = .ok (.return_, 1) := by decide +kernel
theorem dX3_become_0 : decode cX3_become 0 = .ok (.aload_n 1, 1) := by decide +kernel
theorem dX3_become_1 : decode cX3_become 1 = .ok (.getfield 9, 3) := by decide +kernel
theorem dX3_become_4 : decode cX3_become 4 = .ok (.iconst 0, 1) := by decide +kernel
theorem dX3_become_5 : decode cX3_become 5 = .ok (.aload_n 0, 1) := by decide +kernel
theorem dX3_become_6 : decode cX3_become 6 = .ok (.getfield 9, 3) := by decide +kernel
theorem dX3_become_9 : decode cX3_become 9 = .ok (.iconst 0, 1) := by decide +kernel
theorem dX3_become_10 : decode cX3_become 10 = .ok (.bipush 10, 2) := by decide +kernel
theorem dX3_become_12 : decode cX3_become 12 = .ok (.invokestatic 22, 3) := by decide +kernel
theorem dX3_become_15 : decode cX3_become 15 = .ok (.aload_n 0, 1) := by decide +kernel
theorem dX3_become_16 : decode cX3_become 16 = .ok (.aload_n 1, 1) := by decide +kernel
theorem dX3_become_17 : decode cX3_become 17 = .ok (.getfield 15, 3) := by decide +kernel
theorem dX3_become_20 : decode cX3_become 20 = .ok (.putfield 15, 3) := by decide +kernel
theorem dX3_become_23 : decode cX3_become 23 = .ok (.aload_n 0, 1) := by decide +kernel
theorem dX3_become_24 : decode cX3_become 24 = .ok (.aload_n 1, 1) := by decide +kernel
theorem dX3_become_25 : decode cX3_become 25 = .ok (.getfield 19, 3) := by decide +kernel
theorem dX3_become_28 : decode cX3_become 28 = .ok (.putfield 19, 3) := by decide +kernel
theorem dX3_become_31 : decode cX3_become 31 = .ok (.return_, 1) := by decide +kernel
theorem dX3_readPart_0 : decode cX3_readPart 0 = .ok (.iload_n 1, 1) := by decide +kernel
theorem dX3_readPart_1 : decode cX3_readPart 1 = .ok (.bipush 10, 2) := by decide +kernel
theorem dX3_readPart_3 : decode cX3_readPart 3 = .ok (.if_icmp .ne 8, 3) := by decide +kernel
theorem dX3_readPart_6 : decode cX3_readPart 6 = .ok (.aload_n 0, 1) := by decide +kernel
theorem dX3_readPart_7 : decode cX3_readPart 7 = .ok (.getfield 15, 3) := by decide +kernel
theorem dX3_readPart_10 : decode cX3_readPart 10 = .ok (.ireturn, 1) := by decide +kernel
theorem dX3_readPart_11 : decode cX3_readPart 11 = .ok (.iload_n 1, 1) := by decide +kernel
theorem dX3_readPart_12 : decode cX3_readPart 12 = .ok (.bipush 11, 2) := by decide +kernel
theorem dX3_readPart_14 : decode cX3_readPart 14 = .ok (.if_icmp .ne 8, 3) := by decide +kernel
theorem dX3_readPart_17 : decode cX3_readPart 17 = .ok (.aload_n 0, 1) := by decide +kernel
theorem dX3_readPart_18 : decode cX3_readPart 18 = .ok (.getfield 19, 3) := by decide +kernel
theorem dX3_readPart_21 : decode cX3_readPart 21 = .ok (.ireturn, 1) := by decide +kernel
theorem dX3_readPart_22 : decode cX3_readPart 22 = .ok (.iload_n 1, 1) := by decide +kernel
theorem dX3_readPart_23 : decode cX3_readPart 23 = .ok (.iconst 0, 1) := by decide +kernel
theorem dX3_readPart_24 : decode cX3_readPart 24 = .ok (.bipush 9, 2) := by decide +kernel
theorem dX3_readPart_26 : decode cX3_readPart 26 = .ok (.invokestatic 28, 3) := by decide +kernel
theorem dX3_readPart_29 : decode cX3_readPart 29 = .ok (.ifCond .eq 12, 3) := by decide +kernel
theorem dX3_readPart_32 : decode cX3_readPart 32 = .ok (.aload_n 0, 1) := by decide +kernel
theorem dX3_readPart_33 : decode cX3_readPart 33 = .ok (.getfield 9, 3) := by decide +kernel
theorem dX3_readPart_36 : decode cX3_readPart 36 = .ok (.iload_n 1, 1) := by decide +kernel
theorem dX3_readPart_37 : decode cX3_readPart 37 = .ok (.iaload, 1) := by decide +kernel
theorem dX3_readPart_38 : decode cX3_readPart 38 = .ok (.goto 4, 3) := by decide +kernel
theorem dX3_readPart_41 : decode cX3_readPart 41 = .ok (.iconst 0, 1) := by decide +kernel
theorem dX3_readPart_42 : decode cX3_readPart 42 = .ok (.ireturn, 1) := by decide +kernel
theorem dX3_writePart_0 : decode cX3_writePart 0 = .ok (.iload_n 1, 1) := by decide +kernel
theorem dX3_writePart_1 : decode cX3_writePart 1 = .ok (.bipush 10, 2) := by decide +kernel
theorem dX3_writePart_3 : decode cX3_writePart 3 = .ok (.if_icmp .ne 11, 3) := by decide +kernel
theorem dX3_writePart_6 : decode cX3_writePart 6 = .ok (.aload_n 0, 1) := by decide +kernel
theorem dX3_writePart_7 : decode cX3_writePart 7 = .ok (.iload_n 2, 1) := by decide +kernel
theorem dX3_writePart_8 : decode cX3_writePart 8 = .ok (.putfield 15, 3) := by decide +kernel
theorem dX3_writePart_11 : decode cX3_writePart 11 = .ok (.goto 34, 3) := by decide +kernel
theorem dX3_writePart_14 : decode cX3_writePart 14 = .ok (.iload_n 1, 1) := by decide +kernel
theorem dX3_writePart_15 : decode cX3_writePart 15 = .ok (.bipush 11, 2) := by decide +kernel
theorem dX3_writePart_17 : decode cX3_writePart 17 = .ok (.if_icmp .ne 11, 3) := by decide +kernel
theorem dX3_writePart_20 : decode cX3_writePart 20 = .ok (.aload_n 0, 1) := by decide +kernel
theorem dX3_writePart_21 : decode cX3_writePart 21 = .ok (.iload_n 2, 1) := by decide +kernel
theorem dX3_writePart_22 : decode cX3_writePart 22 = .ok (.putfield 19, 3) := by decide +kernel
theorem dX3_writePart_25 : decode cX3_writePart 25 = .ok (.goto 20, 3) := by decide +kernel
theorem dX3_writePart_28 : decode cX3_writePart 28 = .ok (.iload_n 1, 1) := by decide +kernel
theorem dX3_writePart_29 : decode cX3_writePart 29 = .ok (.iconst 0, 1) := by decide +kernel
theorem dX3_writePart_30 : decode cX3_writePart 30 = .ok (.bipush 9, 2) := by decide +kernel
theorem dX3_writePart_32 : decode cX3_writePart 32 = .ok (.invokestatic 28, 3) := by decide +kernel
theorem dX3_writePart_35 : decode cX3_writePart 35 = .ok (.ifCond .eq 10, 3) := by decide +kernel
theorem dX3_writePart_38 : decode cX3_writePart 38 = .ok (.aload_n 0, 1) := by decide +kernel
theorem dX3_writePart_39 : decode cX3_writePart 39 = .ok (.getfield 9, 3) := by decide +kernel
theorem dX3_writePart_42 : decode cX3_writePart 42 = .ok (.iload_n 1, 1) := by decide +kernel
theorem dX3_writePart_43 : decode cX3_writePart 43 = .ok (.iload_n 2, 1) := by decide +kernel
theorem dX3_writePart_44 : decode cX3_writePart 44 = .ok (.iastore, 1) := by decide +kernel
theorem dX3_writePart_45 : decode cX3_writePart 45 = .ok (.return_, 1) := by decide +kernel
theorem dX3_worthOfCells_0 : decode cX3_worthOfCells 0 = .ok (.iconst 0, 1) := by decide +kernel
theorem dX3_worthOfCells_1 : decode cX3_worthOfCells 1 = .ok (.istore_n 2, 1) := by decide +kernel
theorem dX3_worthOfCells_2 : decode cX3_worthOfCells 2 = .ok (.iconst 0, 1) := by decide +kernel
theorem dX3_worthOfCells_3 : decode cX3_worthOfCells 3 = .ok (.istore_n 3, 1) := by decide +kernel
theorem dX3_worthOfCells_4 : decode cX3_worthOfCells 4 = .ok (.iload_n 3, 1) := by decide +kernel
theorem dX3_worthOfCells_5 : decode cX3_worthOfCells 5 = .ok (.bipush 10, 2) := by decide +kernel
theorem dX3_worthOfCells_7 : decode cX3_worthOfCells 7 = .ok (.if_icmp .ge 26, 3) := by decide +kernel
theorem dX3_worthOfCells_10 : decode cX3_worthOfCells 10 = .ok (.iload_n 1, 1) := by decide +kernel
theorem dX3_worthOfCells_11 : decode cX3_worthOfCells 11 = .ok (.iload_n 3, 1) := by decide +kernel
theorem dX3_worthOfCells_12 : decode cX3_worthOfCells 12 = .ok (.ishr, 1) := by decide +kernel
theorem dX3_worthOfCells_13 : decode cX3_worthOfCells 13 = .ok (.iconst 1, 1) := by decide +kernel
theorem dX3_worthOfCells_14 : decode cX3_worthOfCells 14 = .ok (.iand, 1) := by decide +kernel
theorem dX3_worthOfCells_15 : decode cX3_worthOfCells 15 = .ok (.ifCond .eq 12, 3) := by decide +kernel
theorem dX3_worthOfCells_18 : decode cX3_worthOfCells 18 = .ok (.iload_n 2, 1) := by decide +kernel
theorem dX3_worthOfCells_19 : decode cX3_worthOfCells 19 = .ok (.aload_n 0, 1) := by decide +kernel
theorem dX3_worthOfCells_20 : decode cX3_worthOfCells 20 = .ok (.getfield 9, 3) := by decide +kernel
theorem dX3_worthOfCells_23 : decode cX3_worthOfCells 23 = .ok (.iload_n 3, 1) := by decide +kernel
theorem dX3_worthOfCells_24 : decode cX3_worthOfCells 24 = .ok (.iaload, 1) := by decide +kernel
theorem dX3_worthOfCells_25 : decode cX3_worthOfCells 25 = .ok (.iadd, 1) := by decide +kernel
theorem dX3_worthOfCells_26 : decode cX3_worthOfCells 26 = .ok (.istore_n 2, 1) := by decide +kernel
theorem dX3_worthOfCells_27 : decode cX3_worthOfCells 27 = .ok (.iinc 3 1, 3) := by decide +kernel
theorem dX3_worthOfCells_30 : decode cX3_worthOfCells 30 = .ok (.goto (-26), 3) := by decide +kernel
theorem dX3_worthOfCells_33 : decode cX3_worthOfCells 33 = .ok (.iload_n 2, 1) := by decide +kernel
theorem dX3_worthOfCells_34 : decode cX3_worthOfCells 34 = .ok (.ireturn, 1) := by decide +kernel
theorem dX4_init_0 : decode cX4_init 0 = .ok (.aload_n 0, 1) := by decide +kernel
theorem dX4_init_1 : decode cX4_init 1 = .ok (.invokespecial 3, 3) := by decide +kernel
theorem dX4_init_4 : decode cX4_init 4 = .ok (.aload_n 0, 1) := by decide +kernel
theorem dX4_init_5 : decode cX4_init 5 = .ok (.iconst 5, 1) := by decide +kernel
theorem dX4_init_6 : decode cX4_init 6 = .ok (.anewarray 9, 3) := by decide +kernel
theorem dX4_init_9 : decode cX4_init 9 = .ok (.putfield 11, 3) := by decide +kernel
theorem dX4_init_12 : decode cX4_init 12 = .ok (.aload_n 0, 1) := by decide +kernel
theorem dX4_init_13 : decode cX4_init 13 = .ok (.bipush 6, 2) := by decide +kernel
theorem dX4_init_15 : decode cX4_init 15 = .ok (.anewarray 17, 3) := by decide +kernel
theorem dX4_init_18 : decode cX4_init 18 = .ok (.putfield 19, 3) := by decide +kernel
theorem dX4_init_21 : decode cX4_init 21 = .ok (.aload_n 0, 1) := by decide +kernel
theorem dX4_init_22 : decode cX4_init 22 = .ok (.bipush 6, 2) := by decide +kernel
theorem dX4_init_24 : decode cX4_init 24 = .ok (.newarray .int, 2) := by decide +kernel
theorem dX4_init_26 : decode cX4_init 26 = .ok (.putfield 23, 3) := by decide +kernel
theorem dX4_init_29 : decode cX4_init 29 = .ok (.aload_n 0, 1) := by decide +kernel
theorem dX4_init_30 : decode cX4_init 30 = .ok (.aload_n 1, 1) := by decide +kernel
theorem dX4_init_31 : decode cX4_init 31 = .ok (.putfield 27, 3) := by decide +kernel
theorem dX4_init_34 : decode cX4_init 34 = .ok (.iconst 0, 1) := by decide +kernel
theorem dX4_init_35 : decode cX4_init 35 = .ok (.istore_n 2, 1) := by decide +kernel
theorem dX4_init_36 : decode cX4_init 36 = .ok (.iload_n 2, 1) := by decide +kernel
theorem dX4_init_37 : decode cX4_init 37 = .ok (.iconst 5, 1) := by decide +kernel
theorem dX4_init_38 : decode cX4_init 38 = .ok (.if_icmp .ge 22, 3) := by decide +kernel
theorem dX4_init_41 : decode cX4_init 41 = .ok (.aload_n 0, 1) := by decide +kernel
theorem dX4_init_42 : decode cX4_init 42 = .ok (.getfield 11, 3) := by decide +kernel
theorem dX4_init_45 : decode cX4_init 45 = .ok (.iload_n 2, 1) := by decide +kernel
theorem dX4_init_46 : decode cX4_init 46 = .ok (.new 9, 3) := by decide +kernel
theorem dX4_init_49 : decode cX4_init 49 = .ok (.dup, 1) := by decide +kernel
theorem dX4_init_50 : decode cX4_init 50 = .ok (.invokespecial 31, 3) := by decide +kernel
theorem dX4_init_53 : decode cX4_init 53 = .ok (.aastore, 1) := by decide +kernel
theorem dX4_init_54 : decode cX4_init 54 = .ok (.iinc 2 1, 3) := by decide +kernel
theorem dX4_init_57 : decode cX4_init 57 = .ok (.goto (-21), 3) := by decide +kernel
theorem dX4_init_60 : decode cX4_init 60 = .ok (.iconst 0, 1) := by decide +kernel
theorem dX4_init_61 : decode cX4_init 61 = .ok (.istore_n 2, 1) := by decide +kernel
theorem dX4_init_62 : decode cX4_init 62 = .ok (.iload_n 2, 1) := by decide +kernel
theorem dX4_init_63 : decode cX4_init 63 = .ok (.bipush 6, 2) := by decide +kernel
theorem dX4_init_65 : decode cX4_init 65 = .ok (.if_icmp .ge 22, 3) := by decide +kernel
theorem dX4_init_68 : decode cX4_init 68 = .ok (.aload_n 0, 1) := by decide +kernel
theorem dX4_init_69 : decode cX4_init 69 = .ok (.getfield 19, 3) := by decide +kernel
theorem dX4_init_72 : decode cX4_init 72 = .ok (.iload_n 2, 1) := by decide +kernel
theorem dX4_init_73 : decode cX4_init 73 = .ok (.new 17, 3) := by decide +kernel
theorem dX4_init_76 : decode cX4_init 76 = .ok (.dup, 1) := by decide +kernel
theorem dX4_init_77 : decode cX4_init 77 = .ok (.invokespecial 32, 3) := by decide +kernel
theorem dX4_init_80 : decode cX4_init 80 = .ok (.aastore, 1) := by decide +kernel
theorem dX4_init_81 : decode cX4_init 81 = .ok (.iinc 2 1, 3) := by decide +kernel
theorem dX4_init_84 : decode cX4_init 84 = .ok (.goto (-22), 3) := by decide +kernel
theorem dX4_init_87 : decode cX4_init 87 = .ok (.return_, 1) := by decide +kernel
theorem dX4_become_0 : decode cX4_become 0 = .ok (.iconst 0, 1) := by decide +kernel
theorem dX4_become_1 : decode cX4_become 1 = .ok (.istore_n 2, 1) := by decide +kernel
theorem dX4_become_2 : decode cX4_become 2 = .ok (.iload_n 2, 1) := by decide +kernel
theorem dX4_become_3 : decode cX4_become 3 = .ok (.aload_n 1, 1) := by decide +kernel
theorem dX4_become_4 : decode cX4_become 4 = .ok (.getfield 33, 3) := by decide +kernel
theorem dX4_become_7 : decode cX4_become 7 = .ok (.if_icmp .ge 24, 3) := by decide +kernel
theorem dX4_become_10 : decode cX4_become 10 = .ok (.aload_n 0, 1) := by decide +kernel
theorem dX4_become_11 : decode cX4_become 11 = .ok (.getfield 11, 3) := by decide +kernel
theorem dX4_become_14 : decode cX4_become 14 = .ok (.iload_n 2, 1) := by decide +kernel
theorem dX4_become_15 : decode cX4_become 15 = .ok (.aaload, 1) := by decide +kernel
theorem dX4_become_16 : decode cX4_become 16 = .ok (.aload_n 1, 1) := by decide +kernel
theorem dX4_become_17 : decode cX4_become 17 = .ok (.getfield 11, 3) := by decide +kernel
theorem dX4_become_20 : decode cX4_become 20 = .ok (.iload_n 2, 1) := by decide +kernel
theorem dX4_become_21 : decode cX4_become 21 = .ok (.aaload, 1) := by decide +kernel
theorem dX4_become_22 : decode cX4_become 22 = .ok (.invokevirtual 37, 3) := by decide +kernel
theorem dX4_become_25 : decode cX4_become 25 = .ok (.iinc 2 1, 3) := by decide +kernel
theorem dX4_become_28 : decode cX4_become 28 = .ok (.goto (-26), 3) := by decide +kernel
theorem dX4_become_31 : decode cX4_become 31 = .ok (.iconst 0, 1) := by decide +kernel
theorem dX4_become_32 : decode cX4_become 32 = .ok (.istore_n 2, 1) := by decide +kernel
theorem dX4_become_33 : decode cX4_become 33 = .ok (.iload_n 2, 1) := by decide +kernel
theorem dX4_become_34 : decode cX4_become 34 = .ok (.aload_n 1, 1) := by decide +kernel
theorem dX4_become_35 : decode cX4_become 35 = .ok (.getfield 41, 3) := by decide +kernel
theorem dX4_become_38 : decode cX4_become 38 = .ok (.if_icmp .ge 24, 3) := by decide +kernel
theorem dX4_become_41 : decode cX4_become 41 = .ok (.aload_n 0, 1) := by decide +kernel
theorem dX4_become_42 : decode cX4_become 42 = .ok (.getfield 19, 3) := by decide +kernel
theorem dX4_become_45 : decode cX4_become 45 = .ok (.iload_n 2, 1) := by decide +kernel
theorem dX4_become_46 : decode cX4_become 46 = .ok (.aaload, 1) := by decide +kernel
theorem dX4_become_47 : decode cX4_become 47 = .ok (.aload_n 1, 1) := by decide +kernel
theorem dX4_become_48 : decode cX4_become 48 = .ok (.getfield 19, 3) := by decide +kernel
theorem dX4_become_51 : decode cX4_become 51 = .ok (.iload_n 2, 1) := by decide +kernel
theorem dX4_become_52 : decode cX4_become 52 = .ok (.aaload, 1) := by decide +kernel
theorem dX4_become_53 : decode cX4_become 53 = .ok (.invokevirtual 44, 3) := by decide +kernel
theorem dX4_become_56 : decode cX4_become 56 = .ok (.iinc 2 1, 3) := by decide +kernel
theorem dX4_become_59 : decode cX4_become 59 = .ok (.goto (-26), 3) := by decide +kernel
theorem dX4_become_62 : decode cX4_become 62 = .ok (.aload_n 0, 1) := by decide +kernel
theorem dX4_become_63 : decode cX4_become 63 = .ok (.aload_n 1, 1) := by decide +kernel
theorem dX4_become_64 : decode cX4_become 64 = .ok (.getfield 33, 3) := by decide +kernel
theorem dX4_become_67 : decode cX4_become 67 = .ok (.putfield 33, 3) := by decide +kernel
theorem dX4_become_70 : decode cX4_become 70 = .ok (.aload_n 0, 1) := by decide +kernel
theorem dX4_become_71 : decode cX4_become 71 = .ok (.aload_n 1, 1) := by decide +kernel
theorem dX4_become_72 : decode cX4_become 72 = .ok (.getfield 41, 3) := by decide +kernel
theorem dX4_become_75 : decode cX4_become 75 = .ok (.putfield 41, 3) := by decide +kernel
theorem dX4_become_78 : decode cX4_become 78 = .ok (.aload_n 0, 1) := by decide +kernel
theorem dX4_become_79 : decode cX4_become 79 = .ok (.aload_n 1, 1) := by decide +kernel
theorem dX4_become_80 : decode cX4_become 80 = .ok (.getfield 47, 3) := by decide +kernel
theorem dX4_become_83 : decode cX4_become 83 = .ok (.putfield 47, 3) := by decide +kernel
theorem dX4_become_86 : decode cX4_become 86 = .ok (.aload_n 0, 1) := by decide +kernel
theorem dX4_become_87 : decode cX4_become 87 = .ok (.aload_n 1, 1) := by decide +kernel
theorem dX4_become_88 : decode cX4_become 88 = .ok (.getfield 27, 3) := by decide +kernel
theorem dX4_become_91 : decode cX4_become 91 = .ok (.putfield 27, 3) := by decide +kernel
theorem dX4_become_94 : decode cX4_become 94 = .ok (.return_, 1) := by decide +kernel
theorem dX4_eaterAt_0 : decode cX4_eaterAt 0 = .ok (.iload_n 1, 1) := by decide +kernel
theorem dX4_eaterAt_1 : decode cX4_eaterAt 1 = .ok (.iconst 0, 1) := by decide +kernel
theorem dX4_eaterAt_2 : decode cX4_eaterAt 2 = .ok (.aload_n 0, 1) := by decide +kernel
theorem dX4_eaterAt_3 : decode cX4_eaterAt 3 = .ok (.getfield 33, 3) := by decide +kernel
theorem dX4_eaterAt_6 : decode cX4_eaterAt 6 = .ok (.iconst 1, 1) := by decide +kernel
theorem dX4_eaterAt_7 : decode cX4_eaterAt 7 = .ok (.isub, 1) := by decide +kernel
theorem dX4_eaterAt_8 : decode cX4_eaterAt 8 = .ok (.invokestatic 50, 3) := by decide +kernel
theorem dX4_eaterAt_11 : decode cX4_eaterAt 11 = .ok (.ifCond .eq 12, 3) := by decide +kernel
theorem dX4_eaterAt_14 : decode cX4_eaterAt 14 = .ok (.aload_n 0, 1) := by decide +kernel
theorem dX4_eaterAt_15 : decode cX4_eaterAt 15 = .ok (.getfield 11, 3) := by decide +kernel
theorem dX4_eaterAt_18 : decode cX4_eaterAt 18 = .ok (.iload_n 1, 1) := by decide +kernel
theorem dX4_eaterAt_19 : decode cX4_eaterAt 19 = .ok (.aaload, 1) := by decide +kernel
theorem dX4_eaterAt_20 : decode cX4_eaterAt 20 = .ok (.goto 4, 3) := by decide +kernel
theorem dX4_eaterAt_23 : decode cX4_eaterAt 23 = .ok (.aconst_null, 1) := by decide +kernel
theorem dX4_eaterAt_24 : decode cX4_eaterAt 24 = .ok (.areturn, 1) := by decide +kernel
theorem dX4_goodAt_0 : decode cX4_goodAt 0 = .ok (.iload_n 1, 1) := by decide +kernel
theorem dX4_goodAt_1 : decode cX4_goodAt 1 = .ok (.iconst 0, 1) := by decide +kernel
theorem dX4_goodAt_2 : decode cX4_goodAt 2 = .ok (.aload_n 0, 1) := by decide +kernel
theorem dX4_goodAt_3 : decode cX4_goodAt 3 = .ok (.getfield 41, 3) := by decide +kernel
theorem dX4_goodAt_6 : decode cX4_goodAt 6 = .ok (.iconst 1, 1) := by decide +kernel
theorem dX4_goodAt_7 : decode cX4_goodAt 7 = .ok (.isub, 1) := by decide +kernel
theorem dX4_goodAt_8 : decode cX4_goodAt 8 = .ok (.invokestatic 50, 3) := by decide +kernel
theorem dX4_goodAt_11 : decode cX4_goodAt 11 = .ok (.ifCond .eq 12, 3) := by decide +kernel
theorem dX4_goodAt_14 : decode cX4_goodAt 14 = .ok (.aload_n 0, 1) := by decide +kernel
theorem dX4_goodAt_15 : decode cX4_goodAt 15 = .ok (.getfield 19, 3) := by decide +kernel
theorem dX4_goodAt_18 : decode cX4_goodAt 18 = .ok (.iload_n 1, 1) := by decide +kernel
theorem dX4_goodAt_19 : decode cX4_goodAt 19 = .ok (.aaload, 1) := by decide +kernel
theorem dX4_goodAt_20 : decode cX4_goodAt 20 = .ok (.goto 4, 3) := by decide +kernel
theorem dX4_goodAt_23 : decode cX4_goodAt 23 = .ok (.aconst_null, 1) := by decide +kernel
theorem dX4_goodAt_24 : decode cX4_goodAt 24 = .ok (.areturn, 1) := by decide +kernel
theorem dX4_addEater_0 : decode cX4_addEater 0 = .ok (.aload_n 0, 1) := by decide +kernel
theorem dX4_addEater_1 : decode cX4_addEater 1 = .ok (.getfield 33, 3) := by decide +kernel
theorem dX4_addEater_4 : decode cX4_addEater 4 = .ok (.iconst 5, 1) := by decide +kernel
theorem dX4_addEater_5 : decode cX4_addEater 5 = .ok (.if_icmp .lt 6, 3) := by decide +kernel
theorem dX4_addEater_8 : decode cX4_addEater 8 = .ok (.bipush (-4), 2) := by decide +kernel
theorem dX4_addEater_10 : decode cX4_addEater 10 = .ok (.ireturn, 1) := by decide +kernel
theorem dX4_addEater_11 : decode cX4_addEater 11 = .ok (.aload_n 0, 1) := by decide +kernel
theorem dX4_addEater_12 : decode cX4_addEater 12 = .ok (.getfield 11, 3) := by decide +kernel
theorem dX4_addEater_15 : decode cX4_addEater 15 = .ok (.aload_n 0, 1) := by decide +kernel
theorem dX4_addEater_16 : decode cX4_addEater 16 = .ok (.getfield 33, 3) := by decide +kernel
theorem dX4_addEater_19 : decode cX4_addEater 19 = .ok (.aaload, 1) := by decide +kernel
theorem dX4_addEater_20 : decode cX4_addEater 20 = .ok (.iload_n 1, 1) := by decide +kernel
theorem dX4_addEater_21 : decode cX4_addEater 21 = .ok (.iload_n 2, 1) := by decide +kernel
theorem dX4_addEater_22 : decode cX4_addEater 22 = .ok (.iload_n 3, 1) := by decide +kernel
theorem dX4_addEater_23 : decode cX4_addEater 23 = .ok (.invokevirtual 54, 3) := by decide +kernel
theorem dX4_addEater_26 : decode cX4_addEater 26 = .ok (.aload_n 0, 1) := by decide +kernel
theorem dX4_addEater_27 : decode cX4_addEater 27 = .ok (.dup, 1) := by decide +kernel
theorem dX4_addEater_28 : decode cX4_addEater 28 = .ok (.getfield 33, 3) := by decide +kernel
theorem dX4_addEater_31 : decode cX4_addEater 31 = .ok (.dup_x1, 1) := by decide +kernel
theorem dX4_addEater_32 : decode cX4_addEater 32 = .ok (.iconst 1, 1) := by decide +kernel
theorem dX4_addEater_33 : decode cX4_addEater 33 = .ok (.iadd, 1) := by decide +kernel
theorem dX4_addEater_34 : decode cX4_addEater 34 = .ok (.putfield 33, 3) := by decide +kernel
theorem dX4_addEater_37 : decode cX4_addEater 37 = .ok (.ireturn, 1) := by decide +kernel
theorem dX4_addGood_0 : decode cX4_addGood 0 = .ok (.aload_n 0, 1) := by decide +kernel
theorem dX4_addGood_1 : decode cX4_addGood 1 = .ok (.getfield 41, 3) := by decide +kernel
theorem dX4_addGood_4 : decode cX4_addGood 4 = .ok (.bipush 6, 2) := by decide +kernel
theorem dX4_addGood_6 : decode cX4_addGood 6 = .ok (.if_icmp .lt 6, 3) := by decide +kernel
theorem dX4_addGood_9 : decode cX4_addGood 9 = .ok (.bipush (-4), 2) := by decide +kernel
theorem dX4_addGood_11 : decode cX4_addGood 11 = .ok (.ireturn, 1) := by decide +kernel
theorem dX4_addGood_12 : decode cX4_addGood 12 = .ok (.aload_n 0, 1) := by decide +kernel
theorem dX4_addGood_13 : decode cX4_addGood 13 = .ok (.getfield 19, 3) := by decide +kernel
theorem dX4_addGood_16 : decode cX4_addGood 16 = .ok (.aload_n 0, 1) := by decide +kernel
theorem dX4_addGood_17 : decode cX4_addGood 17 = .ok (.getfield 41, 3) := by decide +kernel
theorem dX4_addGood_20 : decode cX4_addGood 20 = .ok (.aaload, 1) := by decide +kernel
theorem dX4_addGood_21 : decode cX4_addGood 21 = .ok (.iload_n 1, 1) := by decide +kernel
theorem dX4_addGood_22 : decode cX4_addGood 22 = .ok (.iload_n 2, 1) := by decide +kernel
theorem dX4_addGood_23 : decode cX4_addGood 23 = .ok (.invokevirtual 58, 3) := by decide +kernel
theorem dX4_addGood_26 : decode cX4_addGood 26 = .ok (.aload_n 0, 1) := by decide +kernel
theorem dX4_addGood_27 : decode cX4_addGood 27 = .ok (.dup, 1) := by decide +kernel
theorem dX4_addGood_28 : decode cX4_addGood 28 = .ok (.getfield 41, 3) := by decide +kernel
theorem dX4_addGood_31 : decode cX4_addGood 31 = .ok (.dup_x1, 1) := by decide +kernel
theorem dX4_addGood_32 : decode cX4_addGood 32 = .ok (.iconst 1, 1) := by decide +kernel
theorem dX4_addGood_33 : decode cX4_addGood 33 = .ok (.iadd, 1) := by decide +kernel
theorem dX4_addGood_34 : decode cX4_addGood 34 = .ok (.putfield 41, 3) := by decide +kernel
theorem dX4_addGood_37 : decode cX4_addGood 37 = .ok (.ireturn, 1) := by decide +kernel
theorem dX4_said_0 : decode cX4_said 0 = .ok (.aload_n 0, 1) := by decide +kernel
theorem dX4_said_1 : decode cX4_said 1 = .ok (.getfield 23, 3) := by decide +kernel
theorem dX4_said_4 : decode cX4_said 4 = .ok (.iconst 0, 1) := by decide +kernel
theorem dX4_said_5 : decode cX4_said 5 = .ok (.iload 4, 2) := by decide +kernel
theorem dX4_said_7 : decode cX4_said 7 = .ok (.iastore, 1) := by decide +kernel
theorem dX4_said_8 : decode cX4_said 8 = .ok (.aload_n 0, 1) := by decide +kernel
theorem dX4_said_9 : decode cX4_said 9 = .ok (.getfield 23, 3) := by decide +kernel
theorem dX4_said_12 : decode cX4_said 12 = .ok (.iconst 1, 1) := by decide +kernel
theorem dX4_said_13 : decode cX4_said 13 = .ok (.iload 5, 2) := by decide +kernel
theorem dX4_said_15 : decode cX4_said 15 = .ok (.iastore, 1) := by decide +kernel
theorem dX4_said_16 : decode cX4_said 16 = .ok (.aload_n 0, 1) := by decide +kernel
theorem dX4_said_17 : decode cX4_said 17 = .ok (.getfield 23, 3) := by decide +kernel
theorem dX4_said_20 : decode cX4_said 20 = .ok (.iconst 2, 1) := by decide +kernel
theorem dX4_said_21 : decode cX4_said 21 = .ok (.aload_n 3, 1) := by decide +kernel
theorem dX4_said_22 : decode cX4_said 22 = .ok (.getfield 61, 3) := by decide +kernel
theorem dX4_said_25 : decode cX4_said 25 = .ok (.iastore, 1) := by decide +kernel
theorem dX4_said_26 : decode cX4_said 26 = .ok (.aload_n 0, 1) := by decide +kernel
theorem dX4_said_27 : decode cX4_said 27 = .ok (.getfield 23, 3) := by decide +kernel
theorem dX4_said_30 : decode cX4_said 30 = .ok (.iconst 3, 1) := by decide +kernel
theorem dX4_said_31 : decode cX4_said 31 = .ok (.aload_n 2, 1) := by decide +kernel
theorem dX4_said_32 : decode cX4_said 32 = .ok (.getfield 64, 3) := by decide +kernel
theorem dX4_said_35 : decode cX4_said 35 = .ok (.iastore, 1) := by decide +kernel
theorem dX4_said_36 : decode cX4_said 36 = .ok (.aload_n 0, 1) := by decide +kernel
theorem dX4_said_37 : decode cX4_said 37 = .ok (.getfield 23, 3) := by decide +kernel
theorem dX4_said_40 : decode cX4_said 40 = .ok (.iconst 4, 1) := by decide +kernel
theorem dX4_said_41 : decode cX4_said 41 = .ok (.aload_n 3, 1) := by decide +kernel
theorem dX4_said_42 : decode cX4_said 42 = .ok (.getfield 67, 3) := by decide +kernel
theorem dX4_said_45 : decode cX4_said 45 = .ok (.invokestatic 70, 3) := by decide +kernel
theorem dX4_said_48 : decode cX4_said 48 = .ok (.iastore, 1) := by decide +kernel
theorem dX4_said_49 : decode cX4_said 49 = .ok (.aload_n 0, 1) := by decide +kernel
theorem dX4_said_50 : decode cX4_said 50 = .ok (.getfield 23, 3) := by decide +kernel
theorem dX4_said_53 : decode cX4_said 53 = .ok (.iconst 5, 1) := by decide +kernel
theorem dX4_said_54 : decode cX4_said 54 = .ok (.aload_n 0, 1) := by decide +kernel
theorem dX4_said_55 : decode cX4_said 55 = .ok (.getfield 47, 3) := by decide +kernel
theorem dX4_said_58 : decode cX4_said 58 = .ok (.iastore, 1) := by decide +kernel
theorem dX4_said_59 : decode cX4_said 59 = .ok (.aload_n 0, 1) := by decide +kernel
theorem dX4_said_60 : decode cX4_said 60 = .ok (.getfield 27, 3) := by decide +kernel
theorem dX4_said_63 : decode cX4_said 63 = .ok (.iload_n 1, 1) := by decide +kernel
theorem dX4_said_64 : decode cX4_said 64 = .ok (.aload_n 0, 1) := by decide +kernel
theorem dX4_said_65 : decode cX4_said 65 = .ok (.getfield 23, 3) := by decide +kernel
theorem dX4_said_68 : decode cX4_said 68 = .ok (.invokevirtual 76, 3) := by decide +kernel
theorem dX4_said_71 : decode cX4_said 71 = .ok (.ireturn, 1) := by decide +kernel
theorem dX4_costOf_0 : decode cX4_costOf 0 = .ok (.iload_n 3, 1) := by decide +kernel
theorem dX4_costOf_1 : decode cX4_costOf 1 = .ok (.invokestatic 70, 3) := by decide +kernel
theorem dX4_costOf_4 : decode cX4_costOf 4 = .ok (.istore 4, 2) := by decide +kernel
theorem dX4_costOf_6 : decode cX4_costOf 6 = .ok (.aload_n 1, 1) := by decide +kernel
theorem dX4_costOf_7 : decode cX4_costOf 7 = .ok (.aload_n 2, 1) := by decide +kernel
theorem dX4_costOf_8 : decode cX4_costOf 8 = .ok (.aload_n 0, 1) := by decide +kernel
theorem dX4_costOf_9 : decode cX4_costOf 9 = .ok (.iconst 0, 1) := by decide +kernel
theorem dX4_costOf_10 : decode cX4_costOf 10 = .ok (.aload_n 1, 1) := by decide +kernel
theorem dX4_costOf_11 : decode cX4_costOf 11 = .ok (.aload_n 2, 1) := by decide +kernel
theorem dX4_costOf_12 : decode cX4_costOf 12 = .ok (.iload 4, 2) := by decide +kernel
theorem dX4_costOf_14 : decode cX4_costOf 14 = .ok (.aload_n 2, 1) := by decide +kernel
theorem dX4_costOf_15 : decode cX4_costOf 15 = .ok (.iload_n 3, 1) := by decide +kernel
theorem dX4_costOf_16 : decode cX4_costOf 16 = .ok (.invokevirtual 82, 3) := by decide +kernel
theorem dX4_costOf_19 : decode cX4_costOf 19 = .ok (.invokevirtual 85, 3) := by decide +kernel
theorem dX4_costOf_22 : decode cX4_costOf 22 = .ok (.invokevirtual 89, 3) := by decide +kernel
theorem dX4_costOf_25 : decode cX4_costOf 25 = .ok (.ireturn, 1) := by decide +kernel
theorem dX4_worthOf_0 : decode cX4_worthOf 0 = .ok (.iload_n 3, 1) := by decide +kernel
theorem dX4_worthOf_1 : decode cX4_worthOf 1 = .ok (.invokestatic 70, 3) := by decide +kernel
theorem dX4_worthOf_4 : decode cX4_worthOf 4 = .ok (.istore 4, 2) := by decide +kernel
theorem dX4_worthOf_6 : decode cX4_worthOf 6 = .ok (.iconst 0, 1) := by decide +kernel
theorem dX4_worthOf_7 : decode cX4_worthOf 7 = .ok (.istore 5, 2) := by decide +kernel
theorem dX4_worthOf_9 : decode cX4_worthOf 9 = .ok (.iconst 0, 1) := by decide +kernel
theorem dX4_worthOf_10 : decode cX4_worthOf 10 = .ok (.istore 6, 2) := by decide +kernel
theorem dX4_worthOf_12 : decode cX4_worthOf 12 = .ok (.iload 6, 2) := by decide +kernel
theorem dX4_worthOf_14 : decode cX4_worthOf 14 = .ok (.bipush 10, 2) := by decide +kernel
theorem dX4_worthOf_16 : decode cX4_worthOf 16 = .ok (.if_icmp .ge 43, 3) := by decide +kernel
theorem dX4_worthOf_19 : decode cX4_worthOf 19 = .ok (.iload_n 3, 1) := by decide +kernel
theorem dX4_worthOf_20 : decode cX4_worthOf 20 = .ok (.iload 6, 2) := by decide +kernel
theorem dX4_worthOf_22 : decode cX4_worthOf 22 = .ok (.ishr, 1) := by decide +kernel
theorem dX4_worthOf_23 : decode cX4_worthOf 23 = .ok (.iconst 1, 1) := by decide +kernel
theorem dX4_worthOf_24 : decode cX4_worthOf 24 = .ok (.iand, 1) := by decide +kernel
theorem dX4_worthOf_25 : decode cX4_worthOf 25 = .ok (.ifCond .eq 28, 3) := by decide +kernel
theorem dX4_worthOf_28 : decode cX4_worthOf 28 = .ok (.iload 5, 2) := by decide +kernel
theorem dX4_worthOf_30 : decode cX4_worthOf 30 = .ok (.aload_n 1, 1) := by decide +kernel
theorem dX4_worthOf_31 : decode cX4_worthOf 31 = .ok (.aload_n 0, 1) := by decide +kernel
theorem dX4_worthOf_32 : decode cX4_worthOf 32 = .ok (.iconst 1, 1) := by decide +kernel
theorem dX4_worthOf_33 : decode cX4_worthOf 33 = .ok (.aload_n 1, 1) := by decide +kernel
theorem dX4_worthOf_34 : decode cX4_worthOf 34 = .ok (.aload_n 2, 1) := by decide +kernel
theorem dX4_worthOf_35 : decode cX4_worthOf 35 = .ok (.iload 4, 2) := by decide +kernel
theorem dX4_worthOf_37 : decode cX4_worthOf 37 = .ok (.aload_n 2, 1) := by decide +kernel
theorem dX4_worthOf_38 : decode cX4_worthOf 38 = .ok (.getfield 93, 3) := by decide +kernel
theorem dX4_worthOf_41 : decode cX4_worthOf 41 = .ok (.iload 6, 2) := by decide +kernel
theorem dX4_worthOf_43 : decode cX4_worthOf 43 = .ok (.iaload, 1) := by decide +kernel
theorem dX4_worthOf_44 : decode cX4_worthOf 44 = .ok (.invokevirtual 85, 3) := by decide +kernel
theorem dX4_worthOf_47 : decode cX4_worthOf 47 = .ok (.invokevirtual 96, 3) := by decide +kernel
theorem dX4_worthOf_50 : decode cX4_worthOf 50 = .ok (.iadd, 1) := by decide +kernel
theorem dX4_worthOf_51 : decode cX4_worthOf 51 = .ok (.istore 5, 2) := by decide +kernel
theorem dX4_worthOf_53 : decode cX4_worthOf 53 = .ok (.iinc 6 1, 3) := by decide +kernel
theorem dX4_worthOf_56 : decode cX4_worthOf 56 = .ok (.goto (-44), 3) := by decide +kernel
theorem dX4_worthOf_59 : decode cX4_worthOf 59 = .ok (.iload 5, 2) := by decide +kernel
theorem dX4_worthOf_61 : decode cX4_worthOf 61 = .ok (.ireturn, 1) := by decide +kernel
theorem dX4_leastGain_0 : decode cX4_leastGain 0 = .ok (.aload_n 0, 1) := by decide +kernel
theorem dX4_leastGain_1 : decode cX4_leastGain 1 = .ok (.iconst 2, 1) := by decide +kernel
theorem dX4_leastGain_2 : decode cX4_leastGain 2 = .ok (.aload_n 1, 1) := by decide +kernel
theorem dX4_leastGain_3 : decode cX4_leastGain 3 = .ok (.aload_n 2, 1) := by decide +kernel
theorem dX4_leastGain_4 : decode cX4_leastGain 4 = .ok (.iload_n 3, 1) := by decide +kernel
theorem dX4_leastGain_5 : decode cX4_leastGain 5 = .ok (.invokestatic 70, 3) := by decide +kernel
theorem dX4_leastGain_8 : decode cX4_leastGain 8 = .ok (.aload_n 2, 1) := by decide +kernel
theorem dX4_leastGain_9 : decode cX4_leastGain 9 = .ok (.iload_n 3, 1) := by decide +kernel
theorem dX4_leastGain_10 : decode cX4_leastGain 10 = .ok (.invokevirtual 82, 3) := by decide +kernel
theorem dX4_leastGain_13 : decode cX4_leastGain 13 = .ok (.invokevirtual 85, 3) := by decide +kernel
theorem dX4_leastGain_16 : decode cX4_leastGain 16 = .ok (.ireturn, 1) := by decide +kernel
theorem dX4_tryBite_0 : decode cX4_tryBite 0 = .ok (.aload_n 1, 1) := by decide +kernel
theorem dX4_tryBite_1 : decode cX4_tryBite 1 = .ok (.aload_n 2, 1) := by decide +kernel
theorem dX4_tryBite_2 : decode cX4_tryBite 2 = .ok (.iload_n 3, 1) := by decide +kernel
theorem dX4_tryBite_3 : decode cX4_tryBite 3 = .ok (.invokevirtual 99, 3) := by decide +kernel
theorem dX4_tryBite_6 : decode cX4_tryBite 6 = .ok (.istore 4, 2) := by decide +kernel
theorem dX4_tryBite_8 : decode cX4_tryBite 8 = .ok (.iload 4, 2) := by decide +kernel
theorem dX4_tryBite_10 : decode cX4_tryBite 10 = .ok (.ifCond .ne 5, 3) := by decide +kernel
theorem dX4_tryBite_13 : decode cX4_tryBite 13 = .ok (.iconst 0, 1) := by decide +kernel
theorem dX4_tryBite_14 : decode cX4_tryBite 14 = .ok (.ireturn, 1) := by decide +kernel
theorem dX4_tryBite_15 : decode cX4_tryBite 15 = .ok (.aload_n 0, 1) := by decide +kernel
theorem dX4_tryBite_16 : decode cX4_tryBite 16 = .ok (.aload_n 1, 1) := by decide +kernel
theorem dX4_tryBite_17 : decode cX4_tryBite 17 = .ok (.aload_n 2, 1) := by decide +kernel
theorem dX4_tryBite_18 : decode cX4_tryBite 18 = .ok (.iload 4, 2) := by decide +kernel
theorem dX4_tryBite_20 : decode cX4_tryBite 20 = .ok (.invokevirtual 102, 3) := by decide +kernel
theorem dX4_tryBite_23 : decode cX4_tryBite 23 = .ok (.istore 5, 2) := by decide +kernel
theorem dX4_tryBite_25 : decode cX4_tryBite 25 = .ok (.iload 5, 2) := by decide +kernel
theorem dX4_tryBite_27 : decode cX4_tryBite 27 = .ok (.aload_n 1, 1) := by decide +kernel
theorem dX4_tryBite_28 : decode cX4_tryBite 28 = .ok (.getfield 106, 3) := by decide +kernel
theorem dX4_tryBite_31 : decode cX4_tryBite 31 = .ok (.if_icmp .le 5, 3) := by decide +kernel
theorem dX4_tryBite_34 : decode cX4_tryBite 34 = .ok (.iconst 0, 1) := by decide +kernel
theorem dX4_tryBite_35 : decode cX4_tryBite 35 = .ok (.ireturn, 1) := by decide +kernel
theorem dX4_tryBite_36 : decode cX4_tryBite 36 = .ok (.aload_n 0, 1) := by decide +kernel
theorem dX4_tryBite_37 : decode cX4_tryBite 37 = .ok (.aload_n 1, 1) := by decide +kernel
theorem dX4_tryBite_38 : decode cX4_tryBite 38 = .ok (.aload_n 2, 1) := by decide +kernel
theorem dX4_tryBite_39 : decode cX4_tryBite 39 = .ok (.iload 4, 2) := by decide +kernel
theorem dX4_tryBite_41 : decode cX4_tryBite 41 = .ok (.invokevirtual 109, 3) := by decide +kernel
theorem dX4_tryBite_44 : decode cX4_tryBite 44 = .ok (.istore 6, 2) := by decide +kernel
theorem dX4_tryBite_46 : decode cX4_tryBite 46 = .ok (.aload_n 0, 1) := by decide +kernel
theorem dX4_tryBite_47 : decode cX4_tryBite 47 = .ok (.iload 6, 2) := by decide +kernel
theorem dX4_tryBite_49 : decode cX4_tryBite 49 = .ok (.iload 5, 2) := by decide +kernel
theorem dX4_tryBite_51 : decode cX4_tryBite 51 = .ok (.isub, 1) := by decide +kernel
theorem dX4_tryBite_52 : decode cX4_tryBite 52 = .ok (.putfield 112, 3) := by decide +kernel
theorem dX4_tryBite_55 : decode cX4_tryBite 55 = .ok (.aload_n 1, 1) := by decide +kernel
theorem dX4_tryBite_56 : decode cX4_tryBite 56 = .ok (.aload_n 2, 1) := by decide +kernel
theorem dX4_tryBite_57 : decode cX4_tryBite 57 = .ok (.iload 4, 2) := by decide +kernel
theorem dX4_tryBite_59 : decode cX4_tryBite 59 = .ok (.iload 6, 2) := by decide +kernel
theorem dX4_tryBite_61 : decode cX4_tryBite 61 = .ok (.iload 5, 2) := by decide +kernel
theorem dX4_tryBite_63 : decode cX4_tryBite 63 = .ok (.invokevirtual 115, 3) := by decide +kernel
theorem dX4_tryBite_66 : decode cX4_tryBite 66 = .ok (.iconst 1, 1) := by decide +kernel
theorem dX4_tryBite_67 : decode cX4_tryBite 67 = .ok (.ireturn, 1) := by decide +kernel
theorem dX4_tellBite_0 : decode cX4_tellBite 0 = .ok (.bipush 100, 2) := by decide +kernel
theorem dX4_tellBite_2 : decode cX4_tellBite 2 = .ok (.iload_n 0, 1) := by decide +kernel
theorem dX4_tellBite_3 : decode cX4_tellBite 3 = .ok (.bipush 16, 2) := by decide +kernel
theorem dX4_tellBite_5 : decode cX4_tellBite 5 = .ok (.idiv, 1) := by decide +kernel
theorem dX4_tellBite_6 : decode cX4_tellBite 6 = .ok (.imul, 1) := by decide +kernel
theorem dX4_tellBite_7 : decode cX4_tellBite 7 = .ok (.iload_n 0, 1) := by decide +kernel
theorem dX4_tellBite_8 : decode cX4_tellBite 8 = .ok (.bipush 16, 2) := by decide +kernel
theorem dX4_tellBite_10 : decode cX4_tellBite 10 = .ok (.irem, 1) := by decide +kernel
theorem dX4_tellBite_11 : decode cX4_tellBite 11 = .ok (.iadd, 1) := by decide +kernel
theorem dX4_tellBite_12 : decode cX4_tellBite 12 = .ok (.ireturn, 1) := by decide +kernel
theorem dX4_findBest_0 : decode cX4_findBest 0 = .ok (.aload_n 0, 1) := by decide +kernel
theorem dX4_findBest_1 : decode cX4_findBest 1 = .ok (.iconst (-1), 1) := by decide +kernel
theorem dX4_findBest_2 : decode cX4_findBest 2 = .ok (.putfield 119, 3) := by decide +kernel
theorem dX4_findBest_5 : decode cX4_findBest 5 = .ok (.aload_n 0, 1) := by decide +kernel
theorem dX4_findBest_6 : decode cX4_findBest 6 = .ok (.iconst 0, 1) := by decide +kernel
theorem dX4_findBest_7 : decode cX4_findBest 7 = .ok (.putfield 122, 3) := by decide +kernel
theorem dX4_findBest_10 : decode cX4_findBest 10 = .ok (.iconst 0, 1) := by decide +kernel
theorem dX4_findBest_11 : decode cX4_findBest 11 = .ok (.istore_n 2, 1) := by decide +kernel
theorem dX4_findBest_12 : decode cX4_findBest 12 = .ok (.iload_n 2, 1) := by decide +kernel
theorem dX4_findBest_13 : decode cX4_findBest 13 = .ok (.aload_n 0, 1) := by decide +kernel
theorem dX4_findBest_14 : decode cX4_findBest 14 = .ok (.getfield 41, 3) := by decide +kernel
theorem dX4_findBest_17 : decode cX4_findBest 17 = .ok (.bipush 16, 2) := by decide +kernel
theorem dX4_findBest_19 : decode cX4_findBest 19 = .ok (.imul, 1) := by decide +kernel
theorem dX4_findBest_20 : decode cX4_findBest 20 = .ok (.if_icmp .ge 123, 3) := by decide +kernel
theorem dX4_findBest_23 : decode cX4_findBest 23 = .ok (.aload_n 0, 1) := by decide +kernel
theorem dX4_findBest_24 : decode cX4_findBest 24 = .ok (.getfield 19, 3) := by decide +kernel
theorem dX4_findBest_27 : decode cX4_findBest 27 = .ok (.iload_n 2, 1) := by decide +kernel
theorem dX4_findBest_28 : decode cX4_findBest 28 = .ok (.bipush 16, 2) := by decide +kernel
theorem dX4_findBest_30 : decode cX4_findBest 30 = .ok (.idiv, 1) := by decide +kernel
theorem dX4_findBest_31 : decode cX4_findBest 31 = .ok (.aaload, 1) := by decide +kernel
theorem dX4_findBest_32 : decode cX4_findBest 32 = .ok (.astore_n 3, 1) := by decide +kernel
theorem dX4_findBest_33 : decode cX4_findBest 33 = .ok (.aload_n 1, 1) := by decide +kernel
theorem dX4_findBest_34 : decode cX4_findBest 34 = .ok (.aload_n 3, 1) := by decide +kernel
theorem dX4_findBest_35 : decode cX4_findBest 35 = .ok (.iload_n 2, 1) := by decide +kernel
theorem dX4_findBest_36 : decode cX4_findBest 36 = .ok (.bipush 16, 2) := by decide +kernel
theorem dX4_findBest_38 : decode cX4_findBest 38 = .ok (.irem, 1) := by decide +kernel
theorem dX4_findBest_39 : decode cX4_findBest 39 = .ok (.invokevirtual 99, 3) := by decide +kernel
theorem dX4_findBest_42 : decode cX4_findBest 42 = .ok (.istore 4, 2) := by decide +kernel
theorem dX4_findBest_44 : decode cX4_findBest 44 = .ok (.iload 4, 2) := by decide +kernel
theorem dX4_findBest_46 : decode cX4_findBest 46 = .ok (.ifCond .ne 7, 3) := by decide +kernel
theorem dX4_findBest_49 : decode cX4_findBest 49 = .ok (.iconst 0, 1) := by decide +kernel
theorem dX4_findBest_50 : decode cX4_findBest 50 = .ok (.goto 11, 3) := by decide +kernel
theorem dX4_findBest_53 : decode cX4_findBest 53 = .ok (.aload_n 0, 1) := by decide +kernel
theorem dX4_findBest_54 : decode cX4_findBest 54 = .ok (.aload_n 1, 1) := by decide +kernel
theorem dX4_findBest_55 : decode cX4_findBest 55 = .ok (.aload_n 3, 1) := by decide +kernel
theorem dX4_findBest_56 : decode cX4_findBest 56 = .ok (.iload 4, 2) := by decide +kernel
theorem dX4_findBest_58 : decode cX4_findBest 58 = .ok (.invokevirtual 102, 3) := by decide +kernel
theorem dX4_findBest_61 : decode cX4_findBest 61 = .ok (.istore 5, 2) := by decide +kernel
theorem dX4_findBest_63 : decode cX4_findBest 63 = .ok (.iload 4, 2) := by decide +kernel
theorem dX4_findBest_65 : decode cX4_findBest 65 = .ok (.ifCond .eq 72, 3) := by decide +kernel
theorem dX4_findBest_68 : decode cX4_findBest 68 = .ok (.iload 5, 2) := by decide +kernel
theorem dX4_findBest_70 : decode cX4_findBest 70 = .ok (.aload_n 1, 1) := by decide +kernel
theorem dX4_findBest_71 : decode cX4_findBest 71 = .ok (.getfield 106, 3) := by decide +kernel
theorem dX4_findBest_74 : decode cX4_findBest 74 = .ok (.if_icmp .le 6, 3) := by decide +kernel
theorem dX4_findBest_77 : decode cX4_findBest 77 = .ok (.goto 60, 3) := by decide +kernel
theorem dX4_findBest_80 : decode cX4_findBest 80 = .ok (.aload_n 0, 1) := by decide +kernel
theorem dX4_findBest_81 : decode cX4_findBest 81 = .ok (.aload_n 1, 1) := by decide +kernel
theorem dX4_findBest_82 : decode cX4_findBest 82 = .ok (.aload_n 3, 1) := by decide +kernel
theorem dX4_findBest_83 : decode cX4_findBest 83 = .ok (.iload 4, 2) := by decide +kernel
theorem dX4_findBest_85 : decode cX4_findBest 85 = .ok (.invokevirtual 109, 3) := by decide +kernel
theorem dX4_findBest_88 : decode cX4_findBest 88 = .ok (.iload 5, 2) := by decide +kernel
theorem dX4_findBest_90 : decode cX4_findBest 90 = .ok (.isub, 1) := by decide +kernel
theorem dX4_findBest_91 : decode cX4_findBest 91 = .ok (.istore 6, 2) := by decide +kernel
theorem dX4_findBest_93 : decode cX4_findBest 93 = .ok (.aload_n 0, 1) := by decide +kernel
theorem dX4_findBest_94 : decode cX4_findBest 94 = .ok (.getfield 119, 3) := by decide +kernel
theorem dX4_findBest_97 : decode cX4_findBest 97 = .ok (.iconst (-1), 1) := by decide +kernel
theorem dX4_findBest_98 : decode cX4_findBest 98 = .ok (.if_icmp .eq 12, 3) := by decide +kernel
theorem dX4_findBest_101 : decode cX4_findBest 101 = .ok (.iload 6, 2) := by decide +kernel
theorem dX4_findBest_103 : decode cX4_findBest 103 = .ok (.aload_n 0, 1) := by decide +kernel
theorem dX4_findBest_104 : decode cX4_findBest 104 = .ok (.getfield 122, 3) := by decide +kernel
theorem dX4_findBest_107 : decode cX4_findBest 107 = .ok (.if_icmp .le 30, 3) := by decide +kernel
theorem dX4_findBest_110 : decode cX4_findBest 110 = .ok (.iload 6, 2) := by decide +kernel
theorem dX4_findBest_112 : decode cX4_findBest 112 = .ok (.aload_n 0, 1) := by decide +kernel
theorem dX4_findBest_113 : decode cX4_findBest 113 = .ok (.aload_n 1, 1) := by decide +kernel
theorem dX4_findBest_114 : decode cX4_findBest 114 = .ok (.aload_n 3, 1) := by decide +kernel
theorem dX4_findBest_115 : decode cX4_findBest 115 = .ok (.iload 4, 2) := by decide +kernel
theorem dX4_findBest_117 : decode cX4_findBest 117 = .ok (.invokevirtual 125, 3) := by decide +kernel
theorem dX4_findBest_120 : decode cX4_findBest 120 = .ok (.if_icmp .lt 17, 3) := by decide +kernel
theorem dX4_findBest_123 : decode cX4_findBest 123 = .ok (.aload_n 0, 1) := by decide +kernel
theorem dX4_findBest_124 : decode cX4_findBest 124 = .ok (.iload_n 2, 1) := by decide +kernel
theorem dX4_findBest_125 : decode cX4_findBest 125 = .ok (.invokestatic 128, 3) := by decide +kernel
theorem dX4_findBest_128 : decode cX4_findBest 128 = .ok (.putfield 119, 3) := by decide +kernel
theorem dX4_findBest_131 : decode cX4_findBest 131 = .ok (.aload_n 0, 1) := by decide +kernel
theorem dX4_findBest_132 : decode cX4_findBest 132 = .ok (.iload 6, 2) := by decide +kernel
theorem dX4_findBest_134 : decode cX4_findBest 134 = .ok (.putfield 122, 3) := by decide +kernel
theorem dX4_findBest_137 : decode cX4_findBest 137 = .ok (.iinc 2 1, 3) := by decide +kernel
theorem dX4_findBest_140 : decode cX4_findBest 140 = .ok (.goto (-128), 3) := by decide +kernel
theorem dX4_findBest_143 : decode cX4_findBest 143 = .ok (.return_, 1) := by decide +kernel
theorem dX4_goodOfBest_0 : decode cX4_goodOfBest 0 = .ok (.aload_n 0, 1) := by decide +kernel
theorem dX4_goodOfBest_1 : decode cX4_goodOfBest 1 = .ok (.getfield 119, 3) := by decide +kernel
theorem dX4_goodOfBest_4 : decode cX4_goodOfBest 4 = .ok (.iconst (-1), 1) := by decide +kernel
theorem dX4_goodOfBest_5 : decode cX4_goodOfBest 5 = .ok (.if_icmp .ne 7, 3) := by decide +kernel
theorem dX4_goodOfBest_8 : decode cX4_goodOfBest 8 = .ok (.aconst_null, 1) := by decide +kernel
theorem dX4_goodOfBest_9 : decode cX4_goodOfBest 9 = .ok (.goto 14, 3) := by decide +kernel
theorem dX4_goodOfBest_12 : decode cX4_goodOfBest 12 = .ok (.aload_n 0, 1) := by decide +kernel
theorem dX4_goodOfBest_13 : decode cX4_goodOfBest 13 = .ok (.aload_n 0, 1) := by decide +kernel
theorem dX4_goodOfBest_14 : decode cX4_goodOfBest 14 = .ok (.getfield 119, 3) := by decide +kernel
theorem dX4_goodOfBest_17 : decode cX4_goodOfBest 17 = .ok (.bipush 100, 2) := by decide +kernel
theorem dX4_goodOfBest_19 : decode cX4_goodOfBest 19 = .ok (.idiv, 1) := by decide +kernel
theorem dX4_goodOfBest_20 : decode cX4_goodOfBest 20 = .ok (.invokevirtual 131, 3) := by decide +kernel
theorem dX4_goodOfBest_23 : decode cX4_goodOfBest 23 = .ok (.areturn, 1) := by decide +kernel
theorem dX4_placeOfBest_0 : decode cX4_placeOfBest 0 = .ok (.aload_n 0, 1) := by decide +kernel
theorem dX4_placeOfBest_1 : decode cX4_placeOfBest 1 = .ok (.getfield 119, 3) := by decide +kernel
theorem dX4_placeOfBest_4 : decode cX4_placeOfBest 4 = .ok (.bipush 100, 2) := by decide +kernel
theorem dX4_placeOfBest_6 : decode cX4_placeOfBest 6 = .ok (.irem, 1) := by decide +kernel
theorem dX4_placeOfBest_7 : decode cX4_placeOfBest 7 = .ok (.ireturn, 1) := by decide +kernel
theorem dX5_init_0 : decode cX5_init 0 = .ok (.aload_n 0, 1) := by decide +kernel
theorem dX5_init_1 : decode cX5_init 1 = .ok (.invokespecial 3, 3) := by decide +kernel
theorem dX5_init_4 : decode cX5_init 4 = .ok (.aload_n 0, 1) := by decide +kernel
theorem dX5_init_5 : decode cX5_init 5 = .ok (.iconst (-1), 1) := by decide +kernel
theorem dX5_init_6 : decode cX5_init 6 = .ok (.putfield 11, 3) := by decide +kernel
theorem dX5_init_9 : decode cX5_init 9 = .ok (.aload_n 0, 1) := by decide +kernel
theorem dX5_init_10 : decode cX5_init 10 = .ok (.bipush 40, 2) := by decide +kernel
theorem dX5_init_12 : decode cX5_init 12 = .ok (.newarray .int, 2) := by decide +kernel
theorem dX5_init_14 : decode cX5_init 14 = .ok (.putfield 15, 3) := by decide +kernel
theorem dX5_init_17 : decode cX5_init 17 = .ok (.return_, 1) := by decide +kernel
theorem dX5_becomeRow_0 : decode cX5_becomeRow 0 = .ok (.aload_n 0, 1) := by decide +kernel
theorem dX5_becomeRow_1 : decode cX5_becomeRow 1 = .ok (.iload_n 1, 1) := by decide +kernel
theorem dX5_becomeRow_2 : decode cX5_becomeRow 2 = .ok (.putfield 11, 3) := by decide +kernel
theorem dX5_becomeRow_5 : decode cX5_becomeRow 5 = .ok (.aload_n 0, 1) := by decide +kernel
theorem dX5_becomeRow_6 : decode cX5_becomeRow 6 = .ok (.iload_n 2, 1) := by decide +kernel
theorem dX5_becomeRow_7 : decode cX5_becomeRow 7 = .ok (.putfield 19, 3) := by decide +kernel
theorem dX5_becomeRow_10 : decode cX5_becomeRow 10 = .ok (.iconst 0, 1) := by decide +kernel
theorem dX5_becomeRow_11 : decode cX5_becomeRow 11 = .ok (.istore_n 3, 1) := by decide +kernel
theorem dX5_becomeRow_12 : decode cX5_becomeRow 12 = .ok (.iload_n 3, 1) := by decide +kernel
theorem dX5_becomeRow_13 : decode cX5_becomeRow 13 = .ok (.bipush 40, 2) := by decide +kernel
theorem dX5_becomeRow_15 : decode cX5_becomeRow 15 = .ok (.if_icmp .ge 16, 3) := by decide +kernel
theorem dX5_becomeRow_18 : decode cX5_becomeRow 18 = .ok (.aload_n 0, 1) := by decide +kernel
theorem dX5_becomeRow_19 : decode cX5_becomeRow 19 = .ok (.getfield 15, 3) := by decide +kernel
theorem dX5_becomeRow_22 : decode cX5_becomeRow 22 = .ok (.iload_n 3, 1) := by decide +kernel
theorem dX5_becomeRow_23 : decode cX5_becomeRow 23 = .ok (.iconst 0, 1) := by decide +kernel
theorem dX5_becomeRow_24 : decode cX5_becomeRow 24 = .ok (.iastore, 1) := by decide +kernel
theorem dX5_becomeRow_25 : decode cX5_becomeRow 25 = .ok (.iinc 3 1, 3) := by decide +kernel
theorem dX5_becomeRow_28 : decode cX5_becomeRow 28 = .ok (.goto (-16), 3) := by decide +kernel
theorem dX5_becomeRow_31 : decode cX5_becomeRow 31 = .ok (.return_, 1) := by decide +kernel
theorem dX5_write_0 : decode cX5_write 0 = .ok (.iload_n 1, 1) := by decide +kernel
theorem dX5_write_1 : decode cX5_write 1 = .ok (.iconst 0, 1) := by decide +kernel
theorem dX5_write_2 : decode cX5_write 2 = .ok (.bipush 39, 2) := by decide +kernel
theorem dX5_write_4 : decode cX5_write 4 = .ok (.invokestatic 22, 3) := by decide +kernel
theorem dX5_write_7 : decode cX5_write 7 = .ok (.ifCond .ne 4, 3) := by decide +kernel
theorem dX5_write_10 : decode cX5_write 10 = .ok (.return_, 1) := by decide +kernel
theorem dX5_write_11 : decode cX5_write 11 = .ok (.aload_n 0, 1) := by decide +kernel
theorem dX5_write_12 : decode cX5_write 12 = .ok (.getfield 11, 3) := by decide +kernel
theorem dX5_write_15 : decode cX5_write 15 = .ok (.lookupswitch 47 #[(0, 25), (1, 36)], 25) := by decide +kernel
theorem dX5_write_40 : decode cX5_write 40 = .ok (.aload_n 0, 1) := by decide +kernel
theorem dX5_write_41 : decode cX5_write 41 = .ok (.getfield 15, 3) := by decide +kernel
theorem dX5_write_44 : decode cX5_write 44 = .ok (.iload_n 1, 1) := by decide +kernel
theorem dX5_write_45 : decode cX5_write 45 = .ok (.iload_n 2, 1) := by decide +kernel
theorem dX5_write_46 : decode cX5_write 46 = .ok (.i2b, 1) := by decide +kernel
theorem dX5_write_47 : decode cX5_write 47 = .ok (.iastore, 1) := by decide +kernel
theorem dX5_write_48 : decode cX5_write 48 = .ok (.goto 21, 3) := by decide +kernel
theorem dX5_write_51 : decode cX5_write 51 = .ok (.aload_n 0, 1) := by decide +kernel
theorem dX5_write_52 : decode cX5_write 52 = .ok (.getfield 15, 3) := by decide +kernel
theorem dX5_write_55 : decode cX5_write 55 = .ok (.iload_n 1, 1) := by decide +kernel
theorem dX5_write_56 : decode cX5_write 56 = .ok (.iload_n 2, 1) := by decide +kernel
theorem dX5_write_57 : decode cX5_write 57 = .ok (.i2s, 1) := by decide +kernel
theorem dX5_write_58 : decode cX5_write 58 = .ok (.iastore, 1) := by decide +kernel
theorem dX5_write_59 : decode cX5_write 59 = .ok (.goto 10, 3) := by decide +kernel
theorem dX5_write_62 : decode cX5_write 62 = .ok (.aload_n 0, 1) := by decide +kernel
theorem dX5_write_63 : decode cX5_write 63 = .ok (.getfield 15, 3) := by decide +kernel
theorem dX5_write_66 : decode cX5_write 66 = .ok (.iload_n 1, 1) := by decide +kernel
theorem dX5_write_67 : decode cX5_write 67 = .ok (.iload_n 2, 1) := by decide +kernel
theorem dX5_write_68 : decode cX5_write 68 = .ok (.iastore, 1) := by decide +kernel
theorem dX5_write_69 : decode cX5_write 69 = .ok (.return_, 1) := by decide +kernel
theorem dX5_add_0 : decode cX5_add 0 = .ok (.aload_n 0, 1) := by decide +kernel
theorem dX5_add_1 : decode cX5_add 1 = .ok (.getfield 19, 3) := by decide +kernel
theorem dX5_add_4 : decode cX5_add 4 = .ok (.bipush 40, 2) := by decide +kernel
theorem dX5_add_6 : decode cX5_add 6 = .ok (.if_icmp .ge 24, 3) := by decide +kernel
theorem dX5_add_9 : decode cX5_add 9 = .ok (.aload_n 0, 1) := by decide +kernel
theorem dX5_add_10 : decode cX5_add 10 = .ok (.dup, 1) := by decide +kernel
theorem dX5_add_11 : decode cX5_add 11 = .ok (.getfield 19, 3) := by decide +kernel
theorem dX5_add_14 : decode cX5_add 14 = .ok (.iconst 1, 1) := by decide +kernel
theorem dX5_add_15 : decode cX5_add 15 = .ok (.iadd, 1) := by decide +kernel
theorem dX5_add_16 : decode cX5_add 16 = .ok (.putfield 19, 3) := by decide +kernel
theorem dX5_add_19 : decode cX5_add 19 = .ok (.aload_n 0, 1) := by decide +kernel
theorem dX5_add_20 : decode cX5_add 20 = .ok (.aload_n 0, 1) := by decide +kernel
theorem dX5_add_21 : decode cX5_add 21 = .ok (.getfield 19, 3) := by decide +kernel
theorem dX5_add_24 : decode cX5_add 24 = .ok (.iconst 1, 1) := by decide +kernel
theorem dX5_add_25 : decode cX5_add 25 = .ok (.isub, 1) := by decide +kernel
theorem dX5_add_26 : decode cX5_add 26 = .ok (.iload_n 1, 1) := by decide +kernel
theorem dX5_add_27 : decode cX5_add 27 = .ok (.invokevirtual 26, 3) := by decide +kernel
theorem dX5_add_30 : decode cX5_add 30 = .ok (.return_, 1) := by decide +kernel
theorem dX6_init_0 : decode cX6_init 0 = .ok (.aload_n 0, 1) := by decide +kernel
theorem dX6_init_1 : decode cX6_init 1 = .ok (.invokespecial 3, 3) := by decide +kernel
theorem dX6_init_4 : decode cX6_init 4 = .ok (.aload_n 0, 1) := by decide +kernel
theorem dX6_init_5 : decode cX6_init 5 = .ok (.sipush 160, 3) := by decide +kernel
theorem dX6_init_8 : decode cX6_init 8 = .ok (.newarray .int, 2) := by decide +kernel
theorem dX6_init_10 : decode cX6_init 10 = .ok (.putfield 9, 3) := by decide +kernel
theorem dX6_init_13 : decode cX6_init 13 = .ok (.aload_n 0, 1) := by decide +kernel
theorem dX6_init_14 : decode cX6_init 14 = .ok (.sipush 160, 3) := by decide +kernel
theorem dX6_init_17 : decode cX6_init 17 = .ok (.newarray .int, 2) := by decide +kernel
theorem dX6_init_19 : decode cX6_init 19 = .ok (.putfield 15, 3) := by decide +kernel
theorem dX6_init_22 : decode cX6_init 22 = .ok (.return_, 1) := by decide +kernel
theorem dX6_size_0 : decode cX6_size 0 = .ok (.aload_n 0, 1) := by decide +kernel
theorem dX6_size_1 : decode cX6_size 1 = .ok (.getfield 18, 3) := by decide +kernel
theorem dX6_size_4 : decode cX6_size 4 = .ok (.ireturn, 1) := by decide +kernel
theorem dX6_room_0 : decode cX6_room 0 = .ok (.sipush 160, 3) := by decide +kernel
theorem dX6_room_3 : decode cX6_room 3 = .ok (.aload_n 0, 1) := by decide +kernel
theorem dX6_room_4 : decode cX6_room 4 = .ok (.getfield 18, 3) := by decide +kernel
theorem dX6_room_7 : decode cX6_room 7 = .ok (.isub, 1) := by decide +kernel
theorem dX6_room_8 : decode cX6_room 8 = .ok (.ireturn, 1) := by decide +kernel
theorem dX6_add_0 : decode cX6_add 0 = .ok (.aload_n 0, 1) := by decide +kernel
theorem dX6_add_1 : decode cX6_add 1 = .ok (.getfield 18, 3) := by decide +kernel
theorem dX6_add_4 : decode cX6_add 4 = .ok (.sipush 160, 3) := by decide +kernel
theorem dX6_add_7 : decode cX6_add 7 = .ok (.if_icmp .ge 20, 3) := by decide +kernel
theorem dX6_add_10 : decode cX6_add 10 = .ok (.aload_n 0, 1) := by decide +kernel
theorem dX6_add_11 : decode cX6_add 11 = .ok (.getfield 9, 3) := by decide +kernel
theorem dX6_add_14 : decode cX6_add 14 = .ok (.aload_n 0, 1) := by decide +kernel
theorem dX6_add_15 : decode cX6_add 15 = .ok (.dup, 1) := by decide +kernel
theorem dX6_add_16 : decode cX6_add 16 = .ok (.getfield 18, 3) := by decide +kernel
theorem dX6_add_19 : decode cX6_add 19 = .ok (.dup_x1, 1) := by decide +kernel
theorem dX6_add_20 : decode cX6_add 20 = .ok (.iconst 1, 1) := by decide +kernel
theorem dX6_add_21 : decode cX6_add 21 = .ok (.iadd, 1) := by decide +kernel
theorem dX6_add_22 : decode cX6_add 22 = .ok (.putfield 18, 3) := by decide +kernel
theorem dX6_add_25 : decode cX6_add 25 = .ok (.iload_n 1, 1) := by decide +kernel
theorem dX6_add_26 : decode cX6_add 26 = .ok (.iastore, 1) := by decide +kernel
theorem dX6_add_27 : decode cX6_add 27 = .ok (.return_, 1) := by decide +kernel
theorem dX6_write_0 : decode cX6_write 0 = .ok (.iconst 0, 1) := by decide +kernel
theorem dX6_write_1 : decode cX6_write 1 = .ok (.istore_n 2, 1) := by decide +kernel
theorem dX6_write_2 : decode cX6_write 2 = .ok (.iload_n 2, 1) := by decide +kernel
theorem dX6_write_3 : decode cX6_write 3 = .ok (.aload_n 1, 1) := by decide +kernel
theorem dX6_write_4 : decode cX6_write 4 = .ok (.invokevirtual 22, 3) := by decide +kernel
theorem dX6_write_7 : decode cX6_write 7 = .ok (.if_icmp .ge 18, 3) := by decide +kernel
theorem dX6_write_10 : decode cX6_write 10 = .ok (.aload_n 0, 1) := by decide +kernel
theorem dX6_write_11 : decode cX6_write 11 = .ok (.aload_n 1, 1) := by decide +kernel
theorem dX6_write_12 : decode cX6_write 12 = .ok (.iload_n 2, 1) := by decide +kernel
theorem dX6_write_13 : decode cX6_write 13 = .ok (.invokevirtual 28, 3) := by decide +kernel
theorem dX6_write_16 : decode cX6_write 16 = .ok (.invokevirtual 32, 3) := by decide +kernel
theorem dX6_write_19 : decode cX6_write 19 = .ok (.iinc 2 1, 3) := by decide +kernel
theorem dX6_write_22 : decode cX6_write 22 = .ok (.goto (-20), 3) := by decide +kernel
theorem dX6_write_25 : decode cX6_write 25 = .ok (.return_, 1) := by decide +kernel
theorem dX6_clear_0 : decode cX6_clear 0 = .ok (.aload_n 0, 1) := by decide +kernel
theorem dX6_clear_1 : decode cX6_clear 1 = .ok (.iconst 0, 1) := by decide +kernel
theorem dX6_clear_2 : decode cX6_clear 2 = .ok (.putfield 18, 3) := by decide +kernel
theorem dX6_clear_5 : decode cX6_clear 5 = .ok (.return_, 1) := by decide +kernel
theorem dX6_findFault_0 : decode cX6_findFault 0 = .ok (.aload_n 0, 1) := by decide +kernel
theorem dX6_findFault_1 : decode cX6_findFault 1 = .ok (.iconst 0, 1) := by decide +kernel
theorem dX6_findFault_2 : decode cX6_findFault 2 = .ok (.putfield 36, 3) := by decide +kernel
theorem dX6_findFault_5 : decode cX6_findFault 5 = .ok (.aload_n 0, 1) := by decide +kernel
theorem dX6_findFault_6 : decode cX6_findFault 6 = .ok (.iconst (-1), 1) := by decide +kernel
theorem dX6_findFault_7 : decode cX6_findFault 7 = .ok (.putfield 39, 3) := by decide +kernel
theorem dX6_findFault_10 : decode cX6_findFault 10 = .ok (.aload_n 0, 1) := by decide +kernel
theorem dX6_findFault_11 : decode cX6_findFault 11 = .ok (.iconst 0, 1) := by decide +kernel
theorem dX6_findFault_12 : decode cX6_findFault 12 = .ok (.putfield 42, 3) := by decide +kernel
theorem dX6_findFault_15 : decode cX6_findFault 15 = .ok (.aload_n 0, 1) := by decide +kernel
theorem dX6_findFault_16 : decode cX6_findFault 16 = .ok (.invokevirtual 45, 3) := by decide +kernel
theorem dX6_findFault_19 : decode cX6_findFault 19 = .ok (.aload_n 0, 1) := by decide +kernel
theorem dX6_findFault_20 : decode cX6_findFault 20 = .ok (.bipush 8, 2) := by decide +kernel
theorem dX6_findFault_22 : decode cX6_findFault 22 = .ok (.invokevirtual 50, 3) := by decide +kernel
theorem dX6_findFault_25 : decode cX6_findFault 25 = .ok (.aload_n 0, 1) := by decide +kernel
theorem dX6_findFault_26 : decode cX6_findFault 26 = .ok (.iconst 0, 1) := by decide +kernel
theorem dX6_findFault_27 : decode cX6_findFault 27 = .ok (.iconst 0, 1) := by decide +kernel
theorem dX6_findFault_28 : decode cX6_findFault 28 = .ok (.invokevirtual 53, 3) := by decide +kernel
theorem dX6_findFault_31 : decode cX6_findFault 31 = .ok (.aload_n 0, 1) := by decide +kernel
theorem dX6_findFault_32 : decode cX6_findFault 32 = .ok (.bipush 59, 2) := by decide +kernel
theorem dX6_findFault_34 : decode cX6_findFault 34 = .ok (.invokevirtual 50, 3) := by decide +kernel
theorem dX6_findFault_37 : decode cX6_findFault 37 = .ok (.aload_n 0, 1) := by decide +kernel
theorem dX6_findFault_38 : decode cX6_findFault 38 = .ok (.aload_n 0, 1) := by decide +kernel
theorem dX6_findFault_39 : decode cX6_findFault 39 = .ok (.getfield 42, 3) := by decide +kernel
theorem dX6_findFault_42 : decode cX6_findFault 42 = .ok (.putfield 57, 3) := by decide +kernel
theorem dX6_findFault_45 : decode cX6_findFault 45 = .ok (.aload_n 0, 1) := by decide +kernel
theorem dX6_findFault_46 : decode cX6_findFault 46 = .ok (.bipush 9, 2) := by decide +kernel
theorem dX6_findFault_48 : decode cX6_findFault 48 = .ok (.invokevirtual 50, 3) := by decide +kernel
theorem dX6_findFault_51 : decode cX6_findFault 51 = .ok (.aload_n 0, 1) := by decide +kernel
theorem dX6_findFault_52 : decode cX6_findFault 52 = .ok (.iconst 0, 1) := by decide +kernel
theorem dX6_findFault_53 : decode cX6_findFault 53 = .ok (.iconst 0, 1) := by decide +kernel
theorem dX6_findFault_54 : decode cX6_findFault 54 = .ok (.invokevirtual 53, 3) := by decide +kernel
theorem dX6_findFault_57 : decode cX6_findFault 57 = .ok (.aload_n 0, 1) := by decide +kernel
theorem dX6_findFault_58 : decode cX6_findFault 58 = .ok (.bipush 59, 2) := by decide +kernel
theorem dX6_findFault_60 : decode cX6_findFault 60 = .ok (.invokevirtual 50, 3) := by decide +kernel
theorem dX6_findFault_63 : decode cX6_findFault 63 = .ok (.aload_n 0, 1) := by decide +kernel
theorem dX6_findFault_64 : decode cX6_findFault 64 = .ok (.aload_n 0, 1) := by decide +kernel
theorem dX6_findFault_65 : decode cX6_findFault 65 = .ok (.getfield 42, 3) := by decide +kernel
theorem dX6_findFault_68 : decode cX6_findFault 68 = .ok (.putfield 60, 3) := by decide +kernel
theorem dX6_findFault_71 : decode cX6_findFault 71 = .ok (.aload_n 0, 1) := by decide +kernel
theorem dX6_findFault_72 : decode cX6_findFault 72 = .ok (.bipush 10, 2) := by decide +kernel
theorem dX6_findFault_74 : decode cX6_findFault 74 = .ok (.invokevirtual 50, 3) := by decide +kernel
theorem dX6_findFault_77 : decode cX6_findFault 77 = .ok (.aload_n 0, 1) := by decide +kernel
theorem dX6_findFault_78 : decode cX6_findFault 78 = .ok (.iconst 0, 1) := by decide +kernel
theorem dX6_findFault_79 : decode cX6_findFault 79 = .ok (.iconst 0, 1) := by decide +kernel
theorem dX6_findFault_80 : decode cX6_findFault 80 = .ok (.invokevirtual 53, 3) := by decide +kernel
theorem dX6_findFault_83 : decode cX6_findFault 83 = .ok (.aload_n 0, 1) := by decide +kernel
theorem dX6_findFault_84 : decode cX6_findFault 84 = .ok (.bipush 59, 2) := by decide +kernel
theorem dX6_findFault_86 : decode cX6_findFault 86 = .ok (.invokevirtual 50, 3) := by decide +kernel
theorem dX6_findFault_89 : decode cX6_findFault 89 = .ok (.aload_n 0, 1) := by decide +kernel
theorem dX6_findFault_90 : decode cX6_findFault 90 = .ok (.getfield 63, 3) := by decide +kernel
theorem dX6_findFault_93 : decode cX6_findFault 93 = .ok (.ifCond .eq 7, 3) := by decide +kernel
theorem dX6_findFault_96 : decode cX6_findFault 96 = .ok (.aload_n 0, 1) := by decide +kernel
theorem dX6_findFault_97 : decode cX6_findFault 97 = .ok (.invokevirtual 66, 3) := by decide +kernel
theorem dX6_findFault_100 : decode cX6_findFault 100 = .ok (.aload_n 0, 1) := by decide +kernel
theorem dX6_findFault_101 : decode cX6_findFault 101 = .ok (.getfield 39, 3) := by decide +kernel
theorem dX6_findFault_104 : decode cX6_findFault 104 = .ok (.ireturn, 1) := by decide +kernel
theorem dX6_made_0 : decode cX6_made 0 = .ok (.aload_n 0, 1) := by decide +kernel
theorem dX6_made_1 : decode cX6_made 1 = .ok (.getfield 42, 3) := by decide +kernel
theorem dX6_made_4 : decode cX6_made 4 = .ok (.newarray .int, 2) := by decide +kernel
theorem dX6_made_6 : decode cX6_made 6 = .ok (.astore_n 2, 1) := by decide +kernel
theorem dX6_made_7 : decode cX6_made 7 = .ok (.aload_n 0, 1) := by decide +kernel
theorem dX6_made_8 : decode cX6_made 8 = .ok (.getfield 15, 3) := by decide +kernel
theorem dX6_made_11 : decode cX6_made 11 = .ok (.iconst 0, 1) := by decide +kernel
theorem dX6_made_12 : decode cX6_made 12 = .ok (.aload_n 2, 1) := by decide +kernel
theorem dX6_made_13 : decode cX6_made 13 = .ok (.iconst 0, 1) := by decide +kernel
theorem dX6_made_14 : decode cX6_made 14 = .ok (.aload_n 0, 1) := by decide +kernel
theorem dX6_made_15 : decode cX6_made 15 = .ok (.getfield 42, 3) := by decide +kernel
theorem dX6_made_18 : decode cX6_made 18 = .ok (.invokestatic 69, 3) := by decide +kernel
theorem dX6_made_21 : decode cX6_made 21 = .ok (.new 75, 3) := by decide +kernel
theorem dX6_made_24 : decode cX6_made 24 = .ok (.dup, 1) := by decide +kernel
theorem dX6_made_25 : decode cX6_made 25 = .ok (.iload_n 1, 1) := by decide +kernel
theorem dX6_made_26 : decode cX6_made 26 = .ok (.aload_n 2, 1) := by decide +kernel
theorem dX6_made_27 : decode cX6_made 27 = .ok (.aload_n 0, 1) := by decide +kernel
theorem dX6_made_28 : decode cX6_made 28 = .ok (.getfield 57, 3) := by decide +kernel
theorem dX6_made_31 : decode cX6_made 31 = .ok (.aload_n 0, 1) := by decide +kernel
theorem dX6_made_32 : decode cX6_made 32 = .ok (.getfield 60, 3) := by decide +kernel
theorem dX6_made_35 : decode cX6_made 35 = .ok (.invokespecial 77, 3) := by decide +kernel
theorem dX6_made_38 : decode cX6_made 38 = .ok (.areturn, 1) := by decide +kernel
theorem dX6_readRank_0 : decode cX6_readRank 0 = .ok (.iload_n 1, 1) := by decide +kernel
theorem dX6_readRank_1 : decode cX6_readRank 1 = .ok (.iconst 4, 1) := by decide +kernel
theorem dX6_readRank_2 : decode cX6_readRank 2 = .ok (.if_icmp .le 9, 3) := by decide +kernel
theorem dX6_readRank_5 : decode cX6_readRank 5 = .ok (.aload_n 0, 1) := by decide +kernel
theorem dX6_readRank_6 : decode cX6_readRank 6 = .ok (.iload_n 2, 1) := by decide +kernel
theorem dX6_readRank_7 : decode cX6_readRank 7 = .ok (.invokevirtual 80, 3) := by decide +kernel
theorem dX6_readRank_10 : decode cX6_readRank 10 = .ok (.return_, 1) := by decide +kernel
theorem dX6_readRank_11 : decode cX6_readRank 11 = .ok (.iload_n 1, 1) := by decide +kernel
theorem dX6_readRank_12 : decode cX6_readRank 12 = .ok (.iconst 2, 1) := by decide +kernel
theorem dX6_readRank_13 : decode cX6_readRank 13 = .ok (.if_icmp .ne 39, 3) := by decide +kernel
theorem dX6_readRank_16 : decode cX6_readRank 16 = .ok (.aload_n 0, 1) := by decide +kernel
theorem dX6_readRank_17 : decode cX6_readRank 17 = .ok (.getfield 63, 3) := by decide +kernel
theorem dX6_readRank_20 : decode cX6_readRank 20 = .ok (.bipush 13, 2) := by decide +kernel
theorem dX6_readRank_22 : decode cX6_readRank 22 = .ok (.if_icmp .ne 30, 3) := by decide +kernel
theorem dX6_readRank_25 : decode cX6_readRank 25 = .ok (.aload_n 0, 1) := by decide +kernel
theorem dX6_readRank_26 : decode cX6_readRank 26 = .ok (.iload_n 2, 1) := by decide +kernel
theorem dX6_readRank_27 : decode cX6_readRank 27 = .ok (.invokevirtual 83, 3) := by decide +kernel
theorem dX6_readRank_30 : decode cX6_readRank 30 = .ok (.ifCond .eq 21, 3) := by decide +kernel
theorem dX6_readRank_33 : decode cX6_readRank 33 = .ok (.aload_n 0, 1) := by decide +kernel
theorem dX6_readRank_34 : decode cX6_readRank 34 = .ok (.invokevirtual 45, 3) := by decide +kernel
theorem dX6_readRank_37 : decode cX6_readRank 37 = .ok (.aload_n 0, 1) := by decide +kernel
theorem dX6_readRank_38 : decode cX6_readRank 38 = .ok (.iconst 2, 1) := by decide +kernel
theorem dX6_readRank_39 : decode cX6_readRank 39 = .ok (.iload_n 2, 1) := by decide +kernel
theorem dX6_readRank_40 : decode cX6_readRank 40 = .ok (.iconst 1, 1) := by decide +kernel
theorem dX6_readRank_41 : decode cX6_readRank 41 = .ok (.iadd, 1) := by decide +kernel
theorem dX6_readRank_42 : decode cX6_readRank 42 = .ok (.invokevirtual 53, 3) := by decide +kernel
theorem dX6_readRank_45 : decode cX6_readRank 45 = .ok (.aload_n 0, 1) := by decide +kernel
theorem dX6_readRank_46 : decode cX6_readRank 46 = .ok (.bipush (-13), 2) := by decide +kernel
theorem dX6_readRank_48 : decode cX6_readRank 48 = .ok (.invokevirtual 87, 3) := by decide +kernel
theorem dX6_readRank_51 : decode cX6_readRank 51 = .ok (.return_, 1) := by decide +kernel
theorem dX6_readRank_52 : decode cX6_readRank 52 = .ok (.aload_n 0, 1) := by decide +kernel
theorem dX6_readRank_53 : decode cX6_readRank 53 = .ok (.iload_n 1, 1) := by decide +kernel
theorem dX6_readRank_54 : decode cX6_readRank 54 = .ok (.iconst 1, 1) := by decide +kernel
theorem dX6_readRank_55 : decode cX6_readRank 55 = .ok (.iadd, 1) := by decide +kernel
theorem dX6_readRank_56 : decode cX6_readRank 56 = .ok (.iload_n 2, 1) := by decide +kernel
theorem dX6_readRank_57 : decode cX6_readRank 57 = .ok (.invokevirtual 53, 3) := by decide +kernel
theorem dX6_readRank_60 : decode cX6_readRank 60 = .ok (.iload_n 1, 1) := by decide +kernel
theorem dX6_readRank_61 : decode cX6_readRank 61 = .ok (.iconst 2, 1) := by decide +kernel
theorem dX6_readRank_62 : decode cX6_readRank 62 = .ok (.if_icmp .ne 7, 3) := by decide +kernel
theorem dX6_readRank_65 : decode cX6_readRank 65 = .ok (.iconst 1, 1) := by decide +kernel
theorem dX6_readRank_66 : decode cX6_readRank 66 = .ok (.goto 6, 3) := by decide +kernel
theorem dX6_readRank_69 : decode cX6_readRank 69 = .ok (.sipush 160, 3) := by decide +kernel
theorem dX6_readRank_72 : decode cX6_readRank 72 = .ok (.istore_n 3, 1) := by decide +kernel
theorem dX6_readRank_73 : decode cX6_readRank 73 = .ok (.iconst 0, 1) := by decide +kernel
theorem dX6_readRank_74 : decode cX6_readRank 74 = .ok (.istore 4, 2) := by decide +kernel
theorem dX6_readRank_76 : decode cX6_readRank 76 = .ok (.iload 4, 2) := by decide +kernel
theorem dX6_readRank_78 : decode cX6_readRank 78 = .ok (.iload_n 3, 1) := by decide +kernel
theorem dX6_readRank_79 : decode cX6_readRank 79 = .ok (.if_icmp .ge 45, 3) := by decide +kernel
theorem dX6_readRank_82 : decode cX6_readRank 82 = .ok (.aload_n 0, 1) := by decide +kernel
theorem dX6_readRank_83 : decode cX6_readRank 83 = .ok (.getfield 63, 3) := by decide +kernel
theorem dX6_readRank_86 : decode cX6_readRank 86 = .ok (.invokestatic 90, 3) := by decide +kernel
theorem dX6_readRank_89 : decode cX6_readRank 89 = .ok (.iload_n 1, 1) := by decide +kernel
theorem dX6_readRank_90 : decode cX6_readRank 90 = .ok (.if_icmp .ne 34, 3) := by decide +kernel
theorem dX6_readRank_93 : decode cX6_readRank 93 = .ok (.aload_n 0, 1) := by decide +kernel
theorem dX6_readRank_94 : decode cX6_readRank 94 = .ok (.getfield 63, 3) := by decide +kernel
theorem dX6_readRank_97 : decode cX6_readRank 97 = .ok (.istore 5, 2) := by decide +kernel
theorem dX6_readRank_99 : decode cX6_readRank 99 = .ok (.aload_n 0, 1) := by decide +kernel
theorem dX6_readRank_100 : decode cX6_readRank 100 = .ok (.invokevirtual 45, 3) := by decide +kernel
theorem dX6_readRank_103 : decode cX6_readRank 103 = .ok (.aload_n 0, 1) := by decide +kernel
theorem dX6_readRank_104 : decode cX6_readRank 104 = .ok (.iload_n 1, 1) := by decide +kernel
theorem dX6_readRank_105 : decode cX6_readRank 105 = .ok (.iconst 1, 1) := by decide +kernel
theorem dX6_readRank_106 : decode cX6_readRank 106 = .ok (.iadd, 1) := by decide +kernel
theorem dX6_readRank_107 : decode cX6_readRank 107 = .ok (.iload_n 2, 1) := by decide +kernel
theorem dX6_readRank_108 : decode cX6_readRank 108 = .ok (.invokevirtual 53, 3) := by decide +kernel
theorem dX6_readRank_111 : decode cX6_readRank 111 = .ok (.aload_n 0, 1) := by decide +kernel
theorem dX6_readRank_112 : decode cX6_readRank 112 = .ok (.iload 5, 2) := by decide +kernel
theorem dX6_readRank_114 : decode cX6_readRank 114 = .ok (.ineg, 1) := by decide +kernel
theorem dX6_readRank_115 : decode cX6_readRank 115 = .ok (.invokevirtual 87, 3) := by decide +kernel
theorem dX6_readRank_118 : decode cX6_readRank 118 = .ok (.iinc 4 1, 3) := by decide +kernel
theorem dX6_readRank_121 : decode cX6_readRank 121 = .ok (.goto (-45), 3) := by decide +kernel
theorem dX6_readRank_124 : decode cX6_readRank 124 = .ok (.return_, 1) := by decide +kernel
theorem dX6_readOne_0 : decode cX6_readOne 0 = .ok (.aload_n 0, 1) := by decide +kernel
theorem dX6_readOne_1 : decode cX6_readOne 1 = .ok (.getfield 63, 3) := by decide +kernel
theorem dX6_readOne_4 : decode cX6_readOne 4 = .ok (.iconst 1, 1) := by decide +kernel
theorem dX6_readOne_5 : decode cX6_readOne 5 = .ok (.if_icmp .ne 18, 3) := by decide +kernel
theorem dX6_readOne_8 : decode cX6_readOne 8 = .ok (.aload_n 0, 1) := by decide +kernel
theorem dX6_readOne_9 : decode cX6_readOne 9 = .ok (.aload_n 0, 1) := by decide +kernel
theorem dX6_readOne_10 : decode cX6_readOne 10 = .ok (.getfield 94, 3) := by decide +kernel
theorem dX6_readOne_13 : decode cX6_readOne 13 = .ok (.invokevirtual 87, 3) := by decide +kernel
theorem dX6_readOne_16 : decode cX6_readOne 16 = .ok (.aload_n 0, 1) := by decide +kernel
theorem dX6_readOne_17 : decode cX6_readOne 17 = .ok (.invokevirtual 45, 3) := by decide +kernel
theorem dX6_readOne_20 : decode cX6_readOne 20 = .ok (.goto 111, 3) := by decide +kernel
theorem dX6_readOne_23 : decode cX6_readOne 23 = .ok (.aload_n 0, 1) := by decide +kernel
theorem dX6_readOne_24 : decode cX6_readOne 24 = .ok (.getfield 63, 3) := by decide +kernel
theorem dX6_readOne_27 : decode cX6_readOne 27 = .ok (.iconst 2, 1) := by decide +kernel
theorem dX6_readOne_28 : decode cX6_readOne 28 = .ok (.bipush 7, 2) := by decide +kernel
theorem dX6_readOne_30 : decode cX6_readOne 30 = .ok (.invokestatic 97, 3) := by decide +kernel
theorem dX6_readOne_33 : decode cX6_readOne 33 = .ok (.ifCond .eq 19, 3) := by decide +kernel
theorem dX6_readOne_36 : decode cX6_readOne 36 = .ok (.aload_n 0, 1) := by decide +kernel
theorem dX6_readOne_37 : decode cX6_readOne 37 = .ok (.aload_n 0, 1) := by decide +kernel
theorem dX6_readOne_38 : decode cX6_readOne 38 = .ok (.getfield 63, 3) := by decide +kernel
theorem dX6_readOne_41 : decode cX6_readOne 41 = .ok (.ineg, 1) := by decide +kernel
theorem dX6_readOne_42 : decode cX6_readOne 42 = .ok (.invokevirtual 87, 3) := by decide +kernel
theorem dX6_readOne_45 : decode cX6_readOne 45 = .ok (.aload_n 0, 1) := by decide +kernel
theorem dX6_readOne_46 : decode cX6_readOne 46 = .ok (.invokevirtual 45, 3) := by decide +kernel
theorem dX6_readOne_49 : decode cX6_readOne 49 = .ok (.goto 82, 3) := by decide +kernel
theorem dX6_readOne_52 : decode cX6_readOne 52 = .ok (.aload_n 0, 1) := by decide +kernel
theorem dX6_readOne_53 : decode cX6_readOne 53 = .ok (.getfield 63, 3) := by decide +kernel
theorem dX6_readOne_56 : decode cX6_readOne 56 = .ok (.bipush 45, 2) := by decide +kernel
theorem dX6_readOne_58 : decode cX6_readOne 58 = .ok (.if_icmp .ne 31, 3) := by decide +kernel
theorem dX6_readOne_61 : decode cX6_readOne 61 = .ok (.aload_n 0, 1) := by decide +kernel
theorem dX6_readOne_62 : decode cX6_readOne 62 = .ok (.iload_n 1, 1) := by decide +kernel
theorem dX6_readOne_63 : decode cX6_readOne 63 = .ok (.invokevirtual 83, 3) := by decide +kernel
theorem dX6_readOne_66 : decode cX6_readOne 66 = .ok (.ifCond .eq 65, 3) := by decide +kernel
theorem dX6_readOne_69 : decode cX6_readOne 69 = .ok (.aload_n 0, 1) := by decide +kernel
theorem dX6_readOne_70 : decode cX6_readOne 70 = .ok (.invokevirtual 45, 3) := by decide +kernel
theorem dX6_readOne_73 : decode cX6_readOne 73 = .ok (.aload_n 0, 1) := by decide +kernel
theorem dX6_readOne_74 : decode cX6_readOne 74 = .ok (.iload_n 1, 1) := by decide +kernel
theorem dX6_readOne_75 : decode cX6_readOne 75 = .ok (.iconst 1, 1) := by decide +kernel
theorem dX6_readOne_76 : decode cX6_readOne 76 = .ok (.iadd, 1) := by decide +kernel
theorem dX6_readOne_77 : decode cX6_readOne 77 = .ok (.invokevirtual 80, 3) := by decide +kernel
theorem dX6_readOne_80 : decode cX6_readOne 80 = .ok (.aload_n 0, 1) := by decide +kernel
theorem dX6_readOne_81 : decode cX6_readOne 81 = .ok (.bipush (-14), 2) := by decide +kernel
theorem dX6_readOne_83 : decode cX6_readOne 83 = .ok (.invokevirtual 87, 3) := by decide +kernel
theorem dX6_readOne_86 : decode cX6_readOne 86 = .ok (.goto 45, 3) := by decide +kernel
theorem dX6_readOne_89 : decode cX6_readOne 89 = .ok (.aload_n 0, 1) := by decide +kernel
theorem dX6_readOne_90 : decode cX6_readOne 90 = .ok (.getfield 63, 3) := by decide +kernel
theorem dX6_readOne_93 : decode cX6_readOne 93 = .ok (.bipush 40, 2) := by decide +kernel
theorem dX6_readOne_95 : decode cX6_readOne 95 = .ok (.if_icmp .ne 32, 3) := by decide +kernel
theorem dX6_readOne_98 : decode cX6_readOne 98 = .ok (.aload_n 0, 1) := by decide +kernel
theorem dX6_readOne_99 : decode cX6_readOne 99 = .ok (.iload_n 1, 1) := by decide +kernel
theorem dX6_readOne_100 : decode cX6_readOne 100 = .ok (.invokevirtual 83, 3) := by decide +kernel
theorem dX6_readOne_103 : decode cX6_readOne 103 = .ok (.ifCond .eq 28, 3) := by decide +kernel
theorem dX6_readOne_106 : decode cX6_readOne 106 = .ok (.aload_n 0, 1) := by decide +kernel
theorem dX6_readOne_107 : decode cX6_readOne 107 = .ok (.invokevirtual 45, 3) := by decide +kernel
theorem dX6_readOne_110 : decode cX6_readOne 110 = .ok (.aload_n 0, 1) := by decide +kernel
theorem dX6_readOne_111 : decode cX6_readOne 111 = .ok (.iconst 0, 1) := by decide +kernel
theorem dX6_readOne_112 : decode cX6_readOne 112 = .ok (.iload_n 1, 1) := by decide +kernel
theorem dX6_readOne_113 : decode cX6_readOne 113 = .ok (.iconst 1, 1) := by decide +kernel
theorem dX6_readOne_114 : decode cX6_readOne 114 = .ok (.iadd, 1) := by decide +kernel
theorem dX6_readOne_115 : decode cX6_readOne 115 = .ok (.invokevirtual 53, 3) := by decide +kernel
theorem dX6_readOne_118 : decode cX6_readOne 118 = .ok (.aload_n 0, 1) := by decide +kernel
theorem dX6_readOne_119 : decode cX6_readOne 119 = .ok (.bipush 41, 2) := by decide +kernel
theorem dX6_readOne_121 : decode cX6_readOne 121 = .ok (.invokevirtual 50, 3) := by decide +kernel
theorem dX6_readOne_124 : decode cX6_readOne 124 = .ok (.goto 7, 3) := by decide +kernel
theorem dX6_readOne_127 : decode cX6_readOne 127 = .ok (.aload_n 0, 1) := by decide +kernel
theorem dX6_readOne_128 : decode cX6_readOne 128 = .ok (.invokevirtual 66, 3) := by decide +kernel
theorem dX6_readOne_131 : decode cX6_readOne 131 = .ok (.return_, 1) := by decide +kernel
theorem dX6_mayOpen_0 : decode cX6_mayOpen 0 = .ok (.iload_n 1, 1) := by decide +kernel
theorem dX6_mayOpen_1 : decode cX6_mayOpen 1 = .ok (.iconst 5, 1) := by decide +kernel
theorem dX6_mayOpen_2 : decode cX6_mayOpen 2 = .ok (.if_icmp .lt 7, 3) := by decide +kernel
theorem dX6_mayOpen_5 : decode cX6_mayOpen 5 = .ok (.aload_n 0, 1) := by decide +kernel
theorem dX6_mayOpen_6 : decode cX6_mayOpen 6 = .ok (.invokevirtual 66, 3) := by decide +kernel
theorem dX6_mayOpen_9 : decode cX6_mayOpen 9 = .ok (.iload_n 1, 1) := by decide +kernel
theorem dX6_mayOpen_10 : decode cX6_mayOpen 10 = .ok (.iconst 5, 1) := by decide +kernel
theorem dX6_mayOpen_11 : decode cX6_mayOpen 11 = .ok (.if_icmp .ge 7, 3) := by decide +kernel
theorem dX6_mayOpen_14 : decode cX6_mayOpen 14 = .ok (.iconst 1, 1) := by decide +kernel
theorem dX6_mayOpen_15 : decode cX6_mayOpen 15 = .ok (.goto 4, 3) := by decide +kernel
theorem dX6_mayOpen_18 : decode cX6_mayOpen 18 = .ok (.iconst 0, 1) := by decide +kernel
theorem dX6_mayOpen_19 : decode cX6_mayOpen 19 = .ok (.ireturn, 1) := by decide +kernel
theorem dX6_expect_0 : decode cX6_expect 0 = .ok (.aload_n 0, 1) := by decide +kernel
theorem dX6_expect_1 : decode cX6_expect 1 = .ok (.getfield 63, 3) := by decide +kernel
theorem dX6_expect_4 : decode cX6_expect 4 = .ok (.iload_n 1, 1) := by decide +kernel
theorem dX6_expect_5 : decode cX6_expect 5 = .ok (.if_icmp .ne 10, 3) := by decide +kernel
theorem dX6_expect_8 : decode cX6_expect 8 = .ok (.aload_n 0, 1) := by decide +kernel
theorem dX6_expect_9 : decode cX6_expect 9 = .ok (.invokevirtual 45, 3) := by decide +kernel
theorem dX6_expect_12 : decode cX6_expect 12 = .ok (.goto 7, 3) := by decide +kernel
theorem dX6_expect_15 : decode cX6_expect 15 = .ok (.aload_n 0, 1) := by decide +kernel
theorem dX6_expect_16 : decode cX6_expect 16 = .ok (.invokevirtual 66, 3) := by decide +kernel
theorem dX6_expect_19 : decode cX6_expect 19 = .ok (.return_, 1) := by decide +kernel
theorem dX6_emit_0 : decode cX6_emit 0 = .ok (.aload_n 0, 1) := by decide +kernel
theorem dX6_emit_1 : decode cX6_emit 1 = .ok (.getfield 42, 3) := by decide +kernel
theorem dX6_emit_4 : decode cX6_emit 4 = .ok (.sipush 160, 3) := by decide +kernel
theorem dX6_emit_7 : decode cX6_emit 7 = .ok (.if_icmp .ge 20, 3) := by decide +kernel
theorem dX6_emit_10 : decode cX6_emit 10 = .ok (.aload_n 0, 1) := by decide +kernel
theorem dX6_emit_11 : decode cX6_emit 11 = .ok (.getfield 15, 3) := by decide +kernel
theorem dX6_emit_14 : decode cX6_emit 14 = .ok (.aload_n 0, 1) := by decide +kernel
theorem dX6_emit_15 : decode cX6_emit 15 = .ok (.dup, 1) := by decide +kernel
theorem dX6_emit_16 : decode cX6_emit 16 = .ok (.getfield 42, 3) := by decide +kernel
theorem dX6_emit_19 : decode cX6_emit 19 = .ok (.dup_x1, 1) := by decide +kernel
theorem dX6_emit_20 : decode cX6_emit 20 = .ok (.iconst 1, 1) := by decide +kernel
theorem dX6_emit_21 : decode cX6_emit 21 = .ok (.iadd, 1) := by decide +kernel
theorem dX6_emit_22 : decode cX6_emit 22 = .ok (.putfield 42, 3) := by decide +kernel
theorem dX6_emit_25 : decode cX6_emit 25 = .ok (.iload_n 1, 1) := by decide +kernel
theorem dX6_emit_26 : decode cX6_emit 26 = .ok (.iastore, 1) := by decide +kernel
theorem dX6_emit_27 : decode cX6_emit 27 = .ok (.return_, 1) := by decide +kernel
theorem dX6_fail_0 : decode cX6_fail 0 = .ok (.aload_n 0, 1) := by decide +kernel
theorem dX6_fail_1 : decode cX6_fail 1 = .ok (.getfield 39, 3) := by decide +kernel
theorem dX6_fail_4 : decode cX6_fail 4 = .ok (.ifCond .ge 11, 3) := by decide +kernel
theorem dX6_fail_7 : decode cX6_fail 7 = .ok (.aload_n 0, 1) := by decide +kernel
theorem dX6_fail_8 : decode cX6_fail 8 = .ok (.aload_n 0, 1) := by decide +kernel
theorem dX6_fail_9 : decode cX6_fail 9 = .ok (.getfield 101, 3) := by decide +kernel
theorem dX6_fail_12 : decode cX6_fail 12 = .ok (.putfield 39, 3) := by decide +kernel
theorem dX6_fail_15 : decode cX6_fail 15 = .ok (.aload_n 0, 1) := by decide +kernel
theorem dX6_fail_16 : decode cX6_fail 16 = .ok (.iconst (-1), 1) := by decide +kernel
theorem dX6_fail_17 : decode cX6_fail 17 = .ok (.putfield 63, 3) := by decide +kernel
theorem dX6_fail_20 : decode cX6_fail 20 = .ok (.return_, 1) := by decide +kernel
theorem dX6_advance_0 : decode cX6_advance 0 = .ok (.aload_n 0, 1) := by decide +kernel
theorem dX6_advance_1 : decode cX6_advance 1 = .ok (.getfield 36, 3) := by decide +kernel
theorem dX6_advance_4 : decode cX6_advance 4 = .ok (.aload_n 0, 1) := by decide +kernel
theorem dX6_advance_5 : decode cX6_advance 5 = .ok (.getfield 18, 3) := by decide +kernel
theorem dX6_advance_8 : decode cX6_advance 8 = .ok (.if_icmp .ge 44, 3) := by decide +kernel
theorem dX6_advance_11 : decode cX6_advance 11 = .ok (.aload_n 0, 1) := by decide +kernel
theorem dX6_advance_12 : decode cX6_advance 12 = .ok (.getfield 9, 3) := by decide +kernel
theorem dX6_advance_15 : decode cX6_advance 15 = .ok (.aload_n 0, 1) := by decide +kernel
theorem dX6_advance_16 : decode cX6_advance 16 = .ok (.getfield 36, 3) := by decide +kernel
theorem dX6_advance_19 : decode cX6_advance 19 = .ok (.iaload, 1) := by decide +kernel
theorem dX6_advance_20 : decode cX6_advance 20 = .ok (.bipush 32, 2) := by decide +kernel
theorem dX6_advance_22 : decode cX6_advance 22 = .ok (.if_icmp .eq 17, 3) := by decide +kernel
theorem dX6_advance_25 : decode cX6_advance 25 = .ok (.aload_n 0, 1) := by decide +kernel
theorem dX6_advance_26 : decode cX6_advance 26 = .ok (.getfield 9, 3) := by decide +kernel
theorem dX6_advance_29 : decode cX6_advance 29 = .ok (.aload_n 0, 1) := by decide +kernel
theorem dX6_advance_30 : decode cX6_advance 30 = .ok (.getfield 36, 3) := by decide +kernel
theorem dX6_advance_33 : decode cX6_advance 33 = .ok (.iaload, 1) := by decide +kernel
theorem dX6_advance_34 : decode cX6_advance 34 = .ok (.bipush 10, 2) := by decide +kernel
theorem dX6_advance_36 : decode cX6_advance 36 = .ok (.if_icmp .ne 16, 3) := by decide +kernel
theorem dX6_advance_39 : decode cX6_advance 39 = .ok (.aload_n 0, 1) := by decide +kernel
theorem dX6_advance_40 : decode cX6_advance 40 = .ok (.dup, 1) := by decide +kernel
theorem dX6_advance_41 : decode cX6_advance 41 = .ok (.getfield 36, 3) := by decide +kernel
theorem dX6_advance_44 : decode cX6_advance 44 = .ok (.iconst 1, 1) := by decide +kernel
theorem dX6_advance_45 : decode cX6_advance 45 = .ok (.iadd, 1) := by decide +kernel
theorem dX6_advance_46 : decode cX6_advance 46 = .ok (.putfield 36, 3) := by decide +kernel
theorem dX6_advance_49 : decode cX6_advance 49 = .ok (.goto (-49), 3) := by decide +kernel
theorem dX6_advance_52 : decode cX6_advance 52 = .ok (.aload_n 0, 1) := by decide +kernel
theorem dX6_advance_53 : decode cX6_advance 53 = .ok (.aload_n 0, 1) := by decide +kernel
theorem dX6_advance_54 : decode cX6_advance 54 = .ok (.getfield 36, 3) := by decide +kernel
theorem dX6_advance_57 : decode cX6_advance 57 = .ok (.putfield 101, 3) := by decide +kernel
theorem dX6_advance_60 : decode cX6_advance 60 = .ok (.aload_n 0, 1) := by decide +kernel
theorem dX6_advance_61 : decode cX6_advance 61 = .ok (.getfield 36, 3) := by decide +kernel
theorem dX6_advance_64 : decode cX6_advance 64 = .ok (.aload_n 0, 1) := by decide +kernel
theorem dX6_advance_65 : decode cX6_advance 65 = .ok (.getfield 18, 3) := by decide +kernel
theorem dX6_advance_68 : decode cX6_advance 68 = .ok (.if_icmp .lt 11, 3) := by decide +kernel
theorem dX6_advance_71 : decode cX6_advance 71 = .ok (.aload_n 0, 1) := by decide +kernel
theorem dX6_advance_72 : decode cX6_advance 72 = .ok (.iconst 0, 1) := by decide +kernel
theorem dX6_advance_73 : decode cX6_advance 73 = .ok (.putfield 63, 3) := by decide +kernel
theorem dX6_advance_76 : decode cX6_advance 76 = .ok (.goto 132, 3) := by decide +kernel
theorem dX6_advance_79 : decode cX6_advance 79 = .ok (.aload_n 0, 1) := by decide +kernel
theorem dX6_advance_80 : decode cX6_advance 80 = .ok (.getfield 9, 3) := by decide +kernel
theorem dX6_advance_83 : decode cX6_advance 83 = .ok (.aload_n 0, 1) := by decide +kernel
theorem dX6_advance_84 : decode cX6_advance 84 = .ok (.getfield 36, 3) := by decide +kernel
theorem dX6_advance_87 : decode cX6_advance 87 = .ok (.iaload, 1) := by decide +kernel
theorem dX6_advance_88 : decode cX6_advance 88 = .ok (.invokestatic 104, 3) := by decide +kernel
theorem dX6_advance_91 : decode cX6_advance 91 = .ok (.ifCond .eq 53, 3) := by decide +kernel
theorem dX6_advance_94 : decode cX6_advance 94 = .ok (.aload_n 0, 1) := by decide +kernel
theorem dX6_advance_95 : decode cX6_advance 95 = .ok (.getfield 36, 3) := by decide +kernel
theorem dX6_advance_98 : decode cX6_advance 98 = .ok (.aload_n 0, 1) := by decide +kernel
theorem dX6_advance_99 : decode cX6_advance 99 = .ok (.getfield 18, 3) := by decide +kernel
theorem dX6_advance_102 : decode cX6_advance 102 = .ok (.if_icmp .ge 31, 3) := by decide +kernel
theorem dX6_advance_105 : decode cX6_advance 105 = .ok (.aload_n 0, 1) := by decide +kernel
theorem dX6_advance_106 : decode cX6_advance 106 = .ok (.getfield 9, 3) := by decide +kernel
theorem dX6_advance_109 : decode cX6_advance 109 = .ok (.aload_n 0, 1) := by decide +kernel
theorem dX6_advance_110 : decode cX6_advance 110 = .ok (.getfield 36, 3) := by decide +kernel
theorem dX6_advance_113 : decode cX6_advance 113 = .ok (.iaload, 1) := by decide +kernel
theorem dX6_advance_114 : decode cX6_advance 114 = .ok (.invokestatic 104, 3) := by decide +kernel
theorem dX6_advance_117 : decode cX6_advance 117 = .ok (.ifCond .eq 16, 3) := by decide +kernel
theorem dX6_advance_120 : decode cX6_advance 120 = .ok (.aload_n 0, 1) := by decide +kernel
theorem dX6_advance_121 : decode cX6_advance 121 = .ok (.dup, 1) := by decide +kernel
theorem dX6_advance_122 : decode cX6_advance 122 = .ok (.getfield 36, 3) := by decide +kernel
theorem dX6_advance_125 : decode cX6_advance 125 = .ok (.iconst 1, 1) := by decide +kernel
theorem dX6_advance_126 : decode cX6_advance 126 = .ok (.iadd, 1) := by decide +kernel
theorem dX6_advance_127 : decode cX6_advance 127 = .ok (.putfield 36, 3) := by decide +kernel
theorem dX6_advance_130 : decode cX6_advance 130 = .ok (.goto (-36), 3) := by decide +kernel
theorem dX6_advance_133 : decode cX6_advance 133 = .ok (.aload_n 0, 1) := by decide +kernel
theorem dX6_advance_134 : decode cX6_advance 134 = .ok (.aload_n 0, 1) := by decide +kernel
theorem dX6_advance_135 : decode cX6_advance 135 = .ok (.invokevirtual 107, 3) := by decide +kernel
theorem dX6_advance_138 : decode cX6_advance 138 = .ok (.putfield 63, 3) := by decide +kernel
theorem dX6_advance_141 : decode cX6_advance 141 = .ok (.goto 67, 3) := by decide +kernel
theorem dX6_advance_144 : decode cX6_advance 144 = .ok (.aload_n 0, 1) := by decide +kernel
theorem dX6_advance_145 : decode cX6_advance 145 = .ok (.getfield 9, 3) := by decide +kernel
theorem dX6_advance_148 : decode cX6_advance 148 = .ok (.aload_n 0, 1) := by decide +kernel
theorem dX6_advance_149 : decode cX6_advance 149 = .ok (.getfield 36, 3) := by decide +kernel
theorem dX6_advance_152 : decode cX6_advance 152 = .ok (.iaload, 1) := by decide +kernel
theorem dX6_advance_153 : decode cX6_advance 153 = .ok (.invokestatic 110, 3) := by decide +kernel
theorem dX6_advance_156 : decode cX6_advance 156 = .ok (.ifCond .eq 10, 3) := by decide +kernel
theorem dX6_advance_159 : decode cX6_advance 159 = .ok (.aload_n 0, 1) := by decide +kernel
theorem dX6_advance_160 : decode cX6_advance 160 = .ok (.invokevirtual 113, 3) := by decide +kernel
theorem dX6_advance_163 : decode cX6_advance 163 = .ok (.goto 45, 3) := by decide +kernel
theorem dX6_advance_166 : decode cX6_advance 166 = .ok (.aload_n 0, 1) := by decide +kernel
theorem dX6_advance_167 : decode cX6_advance 167 = .ok (.aload_n 0, 1) := by decide +kernel
theorem dX6_advance_168 : decode cX6_advance 168 = .ok (.getfield 9, 3) := by decide +kernel
theorem dX6_advance_171 : decode cX6_advance 171 = .ok (.aload_n 0, 1) := by decide +kernel
theorem dX6_advance_172 : decode cX6_advance 172 = .ok (.getfield 36, 3) := by decide +kernel
theorem dX6_advance_175 : decode cX6_advance 175 = .ok (.iaload, 1) := by decide +kernel
theorem dX6_advance_176 : decode cX6_advance 176 = .ok (.invokestatic 116, 3) := by decide +kernel
theorem dX6_advance_179 : decode cX6_advance 179 = .ok (.ifCond .eq 15, 3) := by decide +kernel
theorem dX6_advance_182 : decode cX6_advance 182 = .ok (.aload_n 0, 1) := by decide +kernel
theorem dX6_advance_183 : decode cX6_advance 183 = .ok (.getfield 9, 3) := by decide +kernel
theorem dX6_advance_186 : decode cX6_advance 186 = .ok (.aload_n 0, 1) := by decide +kernel
theorem dX6_advance_187 : decode cX6_advance 187 = .ok (.getfield 36, 3) := by decide +kernel
theorem dX6_advance_190 : decode cX6_advance 190 = .ok (.iaload, 1) := by decide +kernel
theorem dX6_advance_191 : decode cX6_advance 191 = .ok (.goto 4, 3) := by decide +kernel
theorem dX6_advance_194 : decode cX6_advance 194 = .ok (.iconst (-1), 1) := by decide +kernel
theorem dX6_advance_195 : decode cX6_advance 195 = .ok (.putfield 63, 3) := by decide +kernel
theorem dX6_advance_198 : decode cX6_advance 198 = .ok (.aload_n 0, 1) := by decide +kernel
theorem dX6_advance_199 : decode cX6_advance 199 = .ok (.dup, 1) := by decide +kernel
theorem dX6_advance_200 : decode cX6_advance 200 = .ok (.getfield 36, 3) := by decide +kernel
theorem dX6_advance_203 : decode cX6_advance 203 = .ok (.iconst 1, 1) := by decide +kernel
theorem dX6_advance_204 : decode cX6_advance 204 = .ok (.iadd, 1) := by decide +kernel
theorem dX6_advance_205 : decode cX6_advance 205 = .ok (.putfield 36, 3) := by decide +kernel
theorem dX6_advance_208 : decode cX6_advance 208 = .ok (.return_, 1) := by decide +kernel
theorem dX6_readNumber_0 : decode cX6_readNumber 0 = .ok (.aload_n 0, 1) := by decide +kernel
theorem dX6_readNumber_1 : decode cX6_readNumber 1 = .ok (.iconst 0, 1) := by decide +kernel
theorem dX6_readNumber_2 : decode cX6_readNumber 2 = .ok (.putfield 94, 3) := by decide +kernel
theorem dX6_readNumber_5 : decode cX6_readNumber 5 = .ok (.aload_n 0, 1) := by decide +kernel
theorem dX6_readNumber_6 : decode cX6_readNumber 6 = .ok (.getfield 36, 3) := by decide +kernel
theorem dX6_readNumber_9 : decode cX6_readNumber 9 = .ok (.aload_n 0, 1) := by decide +kernel
theorem dX6_readNumber_10 : decode cX6_readNumber 10 = .ok (.getfield 18, 3) := by decide +kernel
theorem dX6_readNumber_13 : decode cX6_readNumber 13 = .ok (.if_icmp .ge 55, 3) := by decide +kernel
theorem dX6_readNumber_16 : decode cX6_readNumber 16 = .ok (.aload_n 0, 1) := by decide +kernel
theorem dX6_readNumber_17 : decode cX6_readNumber 17 = .ok (.getfield 9, 3) := by decide +kernel
theorem dX6_readNumber_20 : decode cX6_readNumber 20 = .ok (.aload_n 0, 1) := by decide +kernel
theorem dX6_readNumber_21 : decode cX6_readNumber 21 = .ok (.getfield 36, 3) := by decide +kernel
theorem dX6_readNumber_24 : decode cX6_readNumber 24 = .ok (.iaload, 1) := by decide +kernel
theorem dX6_readNumber_25 : decode cX6_readNumber 25 = .ok (.invokestatic 110, 3) := by decide +kernel
theorem dX6_readNumber_28 : decode cX6_readNumber 28 = .ok (.ifCond .eq 40, 3) := by decide +kernel
theorem dX6_readNumber_31 : decode cX6_readNumber 31 = .ok (.aload_n 0, 1) := by decide +kernel
theorem dX6_readNumber_32 : decode cX6_readNumber 32 = .ok (.bipush 10, 2) := by decide +kernel
theorem dX6_readNumber_34 : decode cX6_readNumber 34 = .ok (.aload_n 0, 1) := by decide +kernel
theorem dX6_readNumber_35 : decode cX6_readNumber 35 = .ok (.getfield 94, 3) := by decide +kernel
theorem dX6_readNumber_38 : decode cX6_readNumber 38 = .ok (.imul, 1) := by decide +kernel
theorem dX6_readNumber_39 : decode cX6_readNumber 39 = .ok (.aload_n 0, 1) := by decide +kernel
theorem dX6_readNumber_40 : decode cX6_readNumber 40 = .ok (.getfield 9, 3) := by decide +kernel
theorem dX6_readNumber_43 : decode cX6_readNumber 43 = .ok (.aload_n 0, 1) := by decide +kernel
theorem dX6_readNumber_44 : decode cX6_readNumber 44 = .ok (.getfield 36, 3) := by decide +kernel
theorem dX6_readNumber_47 : decode cX6_readNumber 47 = .ok (.iaload, 1) := by decide +kernel
theorem dX6_readNumber_48 : decode cX6_readNumber 48 = .ok (.iadd, 1) := by decide +kernel
theorem dX6_readNumber_49 : decode cX6_readNumber 49 = .ok (.bipush 48, 2) := by decide +kernel
theorem dX6_readNumber_51 : decode cX6_readNumber 51 = .ok (.isub, 1) := by decide +kernel
theorem dX6_readNumber_52 : decode cX6_readNumber 52 = .ok (.putfield 94, 3) := by decide +kernel
theorem dX6_readNumber_55 : decode cX6_readNumber 55 = .ok (.aload_n 0, 1) := by decide +kernel
theorem dX6_readNumber_56 : decode cX6_readNumber 56 = .ok (.dup, 1) := by decide +kernel
theorem dX6_readNumber_57 : decode cX6_readNumber 57 = .ok (.getfield 36, 3) := by decide +kernel
theorem dX6_readNumber_60 : decode cX6_readNumber 60 = .ok (.iconst 1, 1) := by decide +kernel
theorem dX6_readNumber_61 : decode cX6_readNumber 61 = .ok (.iadd, 1) := by decide +kernel
theorem dX6_readNumber_62 : decode cX6_readNumber 62 = .ok (.putfield 36, 3) := by decide +kernel
theorem dX6_readNumber_65 : decode cX6_readNumber 65 = .ok (.goto (-60), 3) := by decide +kernel
theorem dX6_readNumber_68 : decode cX6_readNumber 68 = .ok (.aload_n 0, 1) := by decide +kernel
theorem dX6_readNumber_69 : decode cX6_readNumber 69 = .ok (.aload_n 0, 1) := by decide +kernel
theorem dX6_readNumber_70 : decode cX6_readNumber 70 = .ok (.getfield 36, 3) := by decide +kernel
theorem dX6_readNumber_73 : decode cX6_readNumber 73 = .ok (.aload_n 0, 1) := by decide +kernel
theorem dX6_readNumber_74 : decode cX6_readNumber 74 = .ok (.getfield 101, 3) := by decide +kernel
theorem dX6_readNumber_77 : decode cX6_readNumber 77 = .ok (.isub, 1) := by decide +kernel
theorem dX6_readNumber_78 : decode cX6_readNumber 78 = .ok (.iconst 4, 1) := by decide +kernel
theorem dX6_readNumber_79 : decode cX6_readNumber 79 = .ok (.if_icmp .le 7, 3) := by decide +kernel
theorem dX6_readNumber_82 : decode cX6_readNumber 82 = .ok (.iconst (-1), 1) := by decide +kernel
theorem dX6_readNumber_83 : decode cX6_readNumber 83 = .ok (.goto 4, 3) := by decide +kernel
theorem dX6_readNumber_86 : decode cX6_readNumber 86 = .ok (.iconst 1, 1) := by decide +kernel
theorem dX6_readNumber_87 : decode cX6_readNumber 87 = .ok (.putfield 63, 3) := by decide +kernel
theorem dX6_readNumber_90 : decode cX6_readNumber 90 = .ok (.return_, 1) := by decide +kernel
theorem dX6_wordToken_0 : decode cX6_wordToken 0 = .ok (.aload_n 0, 1) := by decide +kernel
theorem dX6_wordToken_1 : decode cX6_wordToken 1 = .ok (.ldc 119, 2) := by decide +kernel
theorem dX6_wordToken_3 : decode cX6_wordToken 3 = .ok (.invokevirtual 121, 3) := by decide +kernel
theorem dX6_wordToken_6 : decode cX6_wordToken 6 = .ok (.ifCond .eq 5, 3) := by decide +kernel
theorem dX6_wordToken_9 : decode cX6_wordToken 9 = .ok (.iconst 2, 1) := by decide +kernel
theorem dX6_wordToken_10 : decode cX6_wordToken 10 = .ok (.ireturn, 1) := by decide +kernel
theorem dX6_wordToken_11 : decode cX6_wordToken 11 = .ok (.aload_n 0, 1) := by decide +kernel
theorem dX6_wordToken_12 : decode cX6_wordToken 12 = .ok (.ldc 125, 2) := by decide +kernel
theorem dX6_wordToken_14 : decode cX6_wordToken 14 = .ok (.invokevirtual 121, 3) := by decide +kernel
theorem dX6_wordToken_17 : decode cX6_wordToken 17 = .ok (.ifCond .eq 5, 3) := by decide +kernel
theorem dX6_wordToken_20 : decode cX6_wordToken 20 = .ok (.iconst 3, 1) := by decide +kernel
theorem dX6_wordToken_21 : decode cX6_wordToken 21 = .ok (.ireturn, 1) := by decide +kernel
theorem dX6_wordToken_22 : decode cX6_wordToken 22 = .ok (.aload_n 0, 1) := by decide +kernel
theorem dX6_wordToken_23 : decode cX6_wordToken 23 = .ok (.ldc 127, 2) := by decide +kernel
theorem dX6_wordToken_25 : decode cX6_wordToken 25 = .ok (.invokevirtual 121, 3) := by decide +kernel
theorem dX6_wordToken_28 : decode cX6_wordToken 28 = .ok (.ifCond .eq 5, 3) := by decide +kernel
theorem dX6_wordToken_31 : decode cX6_wordToken 31 = .ok (.iconst 4, 1) := by decide +kernel
theorem dX6_wordToken_32 : decode cX6_wordToken 32 = .ok (.ireturn, 1) := by decide +kernel
theorem dX6_wordToken_33 : decode cX6_wordToken 33 = .ok (.aload_n 0, 1) := by decide +kernel
theorem dX6_wordToken_34 : decode cX6_wordToken 34 = .ok (.ldc 129, 2) := by decide +kernel
theorem dX6_wordToken_36 : decode cX6_wordToken 36 = .ok (.invokevirtual 121, 3) := by decide +kernel
theorem dX6_wordToken_39 : decode cX6_wordToken 39 = .ok (.ifCond .eq 5, 3) := by decide +kernel
theorem dX6_wordToken_42 : decode cX6_wordToken 42 = .ok (.iconst 5, 1) := by decide +kernel
theorem dX6_wordToken_43 : decode cX6_wordToken 43 = .ok (.ireturn, 1) := by decide +kernel
theorem dX6_wordToken_44 : decode cX6_wordToken 44 = .ok (.aload_n 0, 1) := by decide +kernel
theorem dX6_wordToken_45 : decode cX6_wordToken 45 = .ok (.ldc 131, 2) := by decide +kernel
theorem dX6_wordToken_47 : decode cX6_wordToken 47 = .ok (.invokevirtual 121, 3) := by decide +kernel
theorem dX6_wordToken_50 : decode cX6_wordToken 50 = .ok (.ifCond .eq 6, 3) := by decide +kernel
theorem dX6_wordToken_53 : decode cX6_wordToken 53 = .ok (.bipush 6, 2) := by decide +kernel
theorem dX6_wordToken_55 : decode cX6_wordToken 55 = .ok (.ireturn, 1) := by decide +kernel
theorem dX6_wordToken_56 : decode cX6_wordToken 56 = .ok (.aload_n 0, 1) := by decide +kernel
theorem dX6_wordToken_57 : decode cX6_wordToken 57 = .ok (.ldc 133, 2) := by decide +kernel
theorem dX6_wordToken_59 : decode cX6_wordToken 59 = .ok (.invokevirtual 121, 3) := by decide +kernel
theorem dX6_wordToken_62 : decode cX6_wordToken 62 = .ok (.ifCond .eq 6, 3) := by decide +kernel
theorem dX6_wordToken_65 : decode cX6_wordToken 65 = .ok (.bipush 7, 2) := by decide +kernel
theorem dX6_wordToken_67 : decode cX6_wordToken 67 = .ok (.ireturn, 1) := by decide +kernel
theorem dX6_wordToken_68 : decode cX6_wordToken 68 = .ok (.aload_n 0, 1) := by decide +kernel
theorem dX6_wordToken_69 : decode cX6_wordToken 69 = .ok (.ldc 135, 2) := by decide +kernel
theorem dX6_wordToken_71 : decode cX6_wordToken 71 = .ok (.invokevirtual 121, 3) := by decide +kernel
theorem dX6_wordToken_74 : decode cX6_wordToken 74 = .ok (.ifCond .eq 6, 3) := by decide +kernel
theorem dX6_wordToken_77 : decode cX6_wordToken 77 = .ok (.bipush 8, 2) := by decide +kernel
theorem dX6_wordToken_79 : decode cX6_wordToken 79 = .ok (.ireturn, 1) := by decide +kernel
theorem dX6_wordToken_80 : decode cX6_wordToken 80 = .ok (.aload_n 0, 1) := by decide +kernel
theorem dX6_wordToken_81 : decode cX6_wordToken 81 = .ok (.ldc 137, 2) := by decide +kernel
theorem dX6_wordToken_83 : decode cX6_wordToken 83 = .ok (.invokevirtual 121, 3) := by decide +kernel
theorem dX6_wordToken_86 : decode cX6_wordToken 86 = .ok (.ifCond .eq 6, 3) := by decide +kernel
theorem dX6_wordToken_89 : decode cX6_wordToken 89 = .ok (.bipush 9, 2) := by decide +kernel
theorem dX6_wordToken_91 : decode cX6_wordToken 91 = .ok (.ireturn, 1) := by decide +kernel
theorem dX6_wordToken_92 : decode cX6_wordToken 92 = .ok (.aload_n 0, 1) := by decide +kernel
theorem dX6_wordToken_93 : decode cX6_wordToken 93 = .ok (.ldc 139, 2) := by decide +kernel
theorem dX6_wordToken_95 : decode cX6_wordToken 95 = .ok (.invokevirtual 121, 3) := by decide +kernel
theorem dX6_wordToken_98 : decode cX6_wordToken 98 = .ok (.ifCond .eq 6, 3) := by decide +kernel
theorem dX6_wordToken_101 : decode cX6_wordToken 101 = .ok (.bipush 10, 2) := by decide +kernel
theorem dX6_wordToken_103 : decode cX6_wordToken 103 = .ok (.ireturn, 1) := by decide +kernel
theorem dX6_wordToken_104 : decode cX6_wordToken 104 = .ok (.aload_n 0, 1) := by decide +kernel
theorem dX6_wordToken_105 : decode cX6_wordToken 105 = .ok (.ldc 141, 2) := by decide +kernel
theorem dX6_wordToken_107 : decode cX6_wordToken 107 = .ok (.invokevirtual 121, 3) := by decide +kernel
theorem dX6_wordToken_110 : decode cX6_wordToken 110 = .ok (.ifCond .eq 6, 3) := by decide +kernel
theorem dX6_wordToken_113 : decode cX6_wordToken 113 = .ok (.bipush 11, 2) := by decide +kernel
theorem dX6_wordToken_115 : decode cX6_wordToken 115 = .ok (.ireturn, 1) := by decide +kernel
theorem dX6_wordToken_116 : decode cX6_wordToken 116 = .ok (.aload_n 0, 1) := by decide +kernel
theorem dX6_wordToken_117 : decode cX6_wordToken 117 = .ok (.ldc 143, 2) := by decide +kernel
theorem dX6_wordToken_119 : decode cX6_wordToken 119 = .ok (.invokevirtual 121, 3) := by decide +kernel
theorem dX6_wordToken_122 : decode cX6_wordToken 122 = .ok (.ifCond .eq 6, 3) := by decide +kernel
theorem dX6_wordToken_125 : decode cX6_wordToken 125 = .ok (.bipush 12, 2) := by decide +kernel
theorem dX6_wordToken_127 : decode cX6_wordToken 127 = .ok (.ireturn, 1) := by decide +kernel
theorem dX6_wordToken_128 : decode cX6_wordToken 128 = .ok (.aload_n 0, 1) := by decide +kernel
theorem dX6_wordToken_129 : decode cX6_wordToken 129 = .ok (.ldc 145, 2) := by decide +kernel
theorem dX6_wordToken_131 : decode cX6_wordToken 131 = .ok (.invokevirtual 121, 3) := by decide +kernel
theorem dX6_wordToken_134 : decode cX6_wordToken 134 = .ok (.ifCond .eq 8, 3) := by decide +kernel
theorem dX6_wordToken_137 : decode cX6_wordToken 137 = .ok (.bipush 13, 2) := by decide +kernel
theorem dX6_wordToken_139 : decode cX6_wordToken 139 = .ok (.goto 4, 3) := by decide +kernel
theorem dX6_wordToken_142 : decode cX6_wordToken 142 = .ok (.iconst (-1), 1) := by decide +kernel
theorem dX6_wordToken_143 : decode cX6_wordToken 143 = .ok (.ireturn, 1) := by decide +kernel
theorem dX6_isWord_0 : decode cX6_isWord 0 = .ok (.aload_n 0, 1) := by decide +kernel
theorem dX6_isWord_1 : decode cX6_isWord 1 = .ok (.getfield 36, 3) := by decide +kernel
theorem dX6_isWord_4 : decode cX6_isWord 4 = .ok (.aload_n 0, 1) := by decide +kernel
theorem dX6_isWord_5 : decode cX6_isWord 5 = .ok (.getfield 101, 3) := by decide +kernel
theorem dX6_isWord_8 : decode cX6_isWord 8 = .ok (.isub, 1) := by decide +kernel
theorem dX6_isWord_9 : decode cX6_isWord 9 = .ok (.aload_n 1, 1) := by decide +kernel
theorem dX6_isWord_10 : decode cX6_isWord 10 = .ok (.invokevirtual 22, 3) := by decide +kernel
theorem dX6_isWord_13 : decode cX6_isWord 13 = .ok (.if_icmp .eq 5, 3) := by decide +kernel
theorem dX6_isWord_16 : decode cX6_isWord 16 = .ok (.iconst 0, 1) := by decide +kernel
theorem dX6_isWord_17 : decode cX6_isWord 17 = .ok (.ireturn, 1) := by decide +kernel
theorem dX6_isWord_18 : decode cX6_isWord 18 = .ok (.iconst 0, 1) := by decide +kernel
theorem dX6_isWord_19 : decode cX6_isWord 19 = .ok (.istore_n 2, 1) := by decide +kernel
theorem dX6_isWord_20 : decode cX6_isWord 20 = .ok (.iload_n 2, 1) := by decide +kernel
theorem dX6_isWord_21 : decode cX6_isWord 21 = .ok (.aload_n 1, 1) := by decide +kernel
theorem dX6_isWord_22 : decode cX6_isWord 22 = .ok (.invokevirtual 22, 3) := by decide +kernel
theorem dX6_isWord_25 : decode cX6_isWord 25 = .ok (.if_icmp .ge 30, 3) := by decide +kernel
theorem dX6_isWord_28 : decode cX6_isWord 28 = .ok (.aload_n 0, 1) := by decide +kernel
theorem dX6_isWord_29 : decode cX6_isWord 29 = .ok (.getfield 9, 3) := by decide +kernel
theorem dX6_isWord_32 : decode cX6_isWord 32 = .ok (.aload_n 0, 1) := by decide +kernel
theorem dX6_isWord_33 : decode cX6_isWord 33 = .ok (.getfield 101, 3) := by decide +kernel
theorem dX6_isWord_36 : decode cX6_isWord 36 = .ok (.iload_n 2, 1) := by decide +kernel
theorem dX6_isWord_37 : decode cX6_isWord 37 = .ok (.iadd, 1) := by decide +kernel
theorem dX6_isWord_38 : decode cX6_isWord 38 = .ok (.iaload, 1) := by decide +kernel
theorem dX6_isWord_39 : decode cX6_isWord 39 = .ok (.aload_n 1, 1) := by decide +kernel
theorem dX6_isWord_40 : decode cX6_isWord 40 = .ok (.iload_n 2, 1) := by decide +kernel
theorem dX6_isWord_41 : decode cX6_isWord 41 = .ok (.invokevirtual 28, 3) := by decide +kernel
theorem dX6_isWord_44 : decode cX6_isWord 44 = .ok (.if_icmp .eq 5, 3) := by decide +kernel
theorem dX6_isWord_47 : decode cX6_isWord 47 = .ok (.iconst 0, 1) := by decide +kernel
theorem dX6_isWord_48 : decode cX6_isWord 48 = .ok (.ireturn, 1) := by decide +kernel
theorem dX6_isWord_49 : decode cX6_isWord 49 = .ok (.iinc 2 1, 3) := by decide +kernel
theorem dX6_isWord_52 : decode cX6_isWord 52 = .ok (.goto (-32), 3) := by decide +kernel
theorem dX6_isWord_55 : decode cX6_isWord 55 = .ok (.iconst 1, 1) := by decide +kernel
theorem dX6_isWord_56 : decode cX6_isWord 56 = .ok (.ireturn, 1) := by decide +kernel
theorem dX6_isLetter_0 : decode cX6_isLetter 0 = .ok (.iload_n 0, 1) := by decide +kernel
theorem dX6_isLetter_1 : decode cX6_isLetter 1 = .ok (.bipush 97, 2) := by decide +kernel
theorem dX6_isLetter_3 : decode cX6_isLetter 3 = .ok (.if_icmp .lt 13, 3) := by decide +kernel
theorem dX6_isLetter_6 : decode cX6_isLetter 6 = .ok (.iload_n 0, 1) := by decide +kernel
theorem dX6_isLetter_7 : decode cX6_isLetter 7 = .ok (.bipush 122, 2) := by decide +kernel
theorem dX6_isLetter_9 : decode cX6_isLetter 9 = .ok (.if_icmp .gt 7, 3) := by decide +kernel
theorem dX6_isLetter_12 : decode cX6_isLetter 12 = .ok (.iconst 1, 1) := by decide +kernel
theorem dX6_isLetter_13 : decode cX6_isLetter 13 = .ok (.goto 4, 3) := by decide +kernel
theorem dX6_isLetter_16 : decode cX6_isLetter 16 = .ok (.iconst 0, 1) := by decide +kernel
theorem dX6_isLetter_17 : decode cX6_isLetter 17 = .ok (.ireturn, 1) := by decide +kernel
theorem dX6_isDigit_0 : decode cX6_isDigit 0 = .ok (.iload_n 0, 1) := by decide +kernel
theorem dX6_isDigit_1 : decode cX6_isDigit 1 = .ok (.bipush 48, 2) := by decide +kernel
theorem dX6_isDigit_3 : decode cX6_isDigit 3 = .ok (.if_icmp .lt 13, 3) := by decide +kernel
theorem dX6_isDigit_6 : decode cX6_isDigit 6 = .ok (.iload_n 0, 1) := by decide +kernel
theorem dX6_isDigit_7 : decode cX6_isDigit 7 = .ok (.bipush 57, 2) := by decide +kernel
theorem dX6_isDigit_9 : decode cX6_isDigit 9 = .ok (.if_icmp .gt 7, 3) := by decide +kernel
theorem dX6_isDigit_12 : decode cX6_isDigit 12 = .ok (.iconst 1, 1) := by decide +kernel
theorem dX6_isDigit_13 : decode cX6_isDigit 13 = .ok (.goto 4, 3) := by decide +kernel
theorem dX6_isDigit_16 : decode cX6_isDigit 16 = .ok (.iconst 0, 1) := by decide +kernel
theorem dX6_isDigit_17 : decode cX6_isDigit 17 = .ok (.ireturn, 1) := by decide +kernel
theorem dX7_init_0 : decode cX7_init 0 = .ok (.aload_n 0, 1) := by decide +kernel
theorem dX7_init_1 : decode cX7_init 1 = .ok (.invokespecial 1, 3) := by decide +kernel
theorem dX7_init_4 : decode cX7_init 4 = .ok (.aload_n 0, 1) := by decide +kernel
theorem dX7_init_5 : decode cX7_init 5 = .ok (.bipush 32, 2) := by decide +kernel
theorem dX7_init_7 : decode cX7_init 7 = .ok (.newarray .int, 2) := by decide +kernel
theorem dX7_init_9 : decode cX7_init 9 = .ok (.putfield 9, 3) := by decide +kernel
theorem dX7_init_12 : decode cX7_init 12 = .ok (.aload_n 0, 1) := by decide +kernel
theorem dX7_init_13 : decode cX7_init 13 = .ok (.iload_n 1, 1) := by decide +kernel
theorem dX7_init_14 : decode cX7_init 14 = .ok (.putfield 13, 3) := by decide +kernel
theorem dX7_init_17 : decode cX7_init 17 = .ok (.aload_n 0, 1) := by decide +kernel
theorem dX7_init_18 : decode cX7_init 18 = .ok (.aload_n 2, 1) := by decide +kernel
theorem dX7_init_19 : decode cX7_init 19 = .ok (.putfield 17, 3) := by decide +kernel
theorem dX7_init_22 : decode cX7_init 22 = .ok (.aload_n 0, 1) := by decide +kernel
theorem dX7_init_23 : decode cX7_init 23 = .ok (.iload_n 3, 1) := by decide +kernel
theorem dX7_init_24 : decode cX7_init 24 = .ok (.putfield 20, 3) := by decide +kernel
theorem dX7_init_27 : decode cX7_init 27 = .ok (.aload_n 0, 1) := by decide +kernel
theorem dX7_init_28 : decode cX7_init 28 = .ok (.iload 4, 2) := by decide +kernel
theorem dX7_init_30 : decode cX7_init 30 = .ok (.putfield 23, 3) := by decide +kernel
theorem dX7_init_33 : decode cX7_init 33 = .ok (.return_, 1) := by decide +kernel
theorem dX7_says_0 : decode cX7_says 0 = .ok (.iload_n 1, 1) := by decide +kernel
theorem dX7_says_1 : decode cX7_says 1 = .ok (.ifCond .ne 7, 3) := by decide +kernel
theorem dX7_says_4 : decode cX7_says 4 = .ok (.iconst 0, 1) := by decide +kernel
theorem dX7_says_5 : decode cX7_says 5 = .ok (.goto 19, 3) := by decide +kernel
theorem dX7_says_8 : decode cX7_says 8 = .ok (.iload_n 1, 1) := by decide +kernel
theorem dX7_says_9 : decode cX7_says 9 = .ok (.iconst 1, 1) := by decide +kernel
theorem dX7_says_10 : decode cX7_says 10 = .ok (.if_icmp .ne 10, 3) := by decide +kernel
theorem dX7_says_13 : decode cX7_says 13 = .ok (.aload_n 0, 1) := by decide +kernel
theorem dX7_says_14 : decode cX7_says 14 = .ok (.getfield 20, 3) := by decide +kernel
theorem dX7_says_17 : decode cX7_says 17 = .ok (.goto 7, 3) := by decide +kernel
theorem dX7_says_20 : decode cX7_says 20 = .ok (.aload_n 0, 1) := by decide +kernel
theorem dX7_says_21 : decode cX7_says 21 = .ok (.getfield 23, 3) := by decide +kernel
theorem dX7_says_24 : decode cX7_says 24 = .ok (.istore_n 3, 1) := by decide +kernel
theorem dX7_says_25 : decode cX7_says 25 = .ok (.iload_n 1, 1) := by decide +kernel
theorem dX7_says_26 : decode cX7_says 26 = .ok (.ifCond .ne 10, 3) := by decide +kernel
theorem dX7_says_29 : decode cX7_says 29 = .ok (.aload_n 0, 1) := by decide +kernel
theorem dX7_says_30 : decode cX7_says 30 = .ok (.getfield 20, 3) := by decide +kernel
theorem dX7_says_33 : decode cX7_says 33 = .ok (.goto 20, 3) := by decide +kernel
theorem dX7_says_36 : decode cX7_says 36 = .ok (.iload_n 1, 1) := by decide +kernel
theorem dX7_says_37 : decode cX7_says 37 = .ok (.iconst 1, 1) := by decide +kernel
theorem dX7_says_38 : decode cX7_says 38 = .ok (.if_icmp .ne 10, 3) := by decide +kernel
theorem dX7_says_41 : decode cX7_says 41 = .ok (.aload_n 0, 1) := by decide +kernel
theorem dX7_says_42 : decode cX7_says 42 = .ok (.getfield 23, 3) := by decide +kernel
theorem dX7_says_45 : decode cX7_says 45 = .ok (.goto 8, 3) := by decide +kernel
theorem dX7_says_48 : decode cX7_says 48 = .ok (.aload_n 0, 1) := by decide +kernel
theorem dX7_says_49 : decode cX7_says 49 = .ok (.getfield 17, 3) := by decide +kernel
theorem dX7_says_52 : decode cX7_says 52 = .ok (.arraylength, 1) := by decide +kernel
theorem dX7_says_53 : decode cX7_says 53 = .ok (.istore 4, 2) := by decide +kernel
theorem dX7_says_55 : decode cX7_says 55 = .ok (.iconst 0, 1) := by decide +kernel
theorem dX7_says_56 : decode cX7_says 56 = .ok (.istore 5, 2) := by decide +kernel
theorem dX7_says_58 : decode cX7_says 58 = .ok (.iload_n 3, 1) := by decide +kernel
theorem dX7_says_59 : decode cX7_says 59 = .ok (.istore 6, 2) := by decide +kernel
theorem dX7_says_61 : decode cX7_says 61 = .ok (.iload 6, 2) := by decide +kernel
theorem dX7_says_63 : decode cX7_says 63 = .ok (.iload 4, 2) := by decide +kernel
theorem dX7_says_65 : decode cX7_says 65 = .ok (.if_icmp .ge 213, 3) := by decide +kernel
theorem dX7_says_68 : decode cX7_says 68 = .ok (.iload 6, 2) := by decide +kernel
theorem dX7_says_70 : decode cX7_says 70 = .ok (.aload_n 0, 1) := by decide +kernel
theorem dX7_says_71 : decode cX7_says 71 = .ok (.getfield 17, 3) := by decide +kernel
theorem dX7_says_74 : decode cX7_says 74 = .ok (.arraylength, 1) := by decide +kernel
theorem dX7_says_75 : decode cX7_says 75 = .ok (.if_icmp .ge 203, 3) := by decide +kernel
theorem dX7_says_78 : decode cX7_says 78 = .ok (.aload_n 0, 1) := by decide +kernel
theorem dX7_says_79 : decode cX7_says 79 = .ok (.getfield 17, 3) := by decide +kernel
theorem dX7_says_82 : decode cX7_says 82 = .ok (.iload 6, 2) := by decide +kernel
theorem dX7_says_84 : decode cX7_says 84 = .ok (.iaload, 1) := by decide +kernel
theorem dX7_says_85 : decode cX7_says 85 = .ok (.istore 7, 2) := by decide +kernel
theorem dX7_says_87 : decode cX7_says 87 = .ok (.iload 7, 2) := by decide +kernel
theorem dX7_says_89 : decode cX7_says 89 = .ok (.ineg, 1) := by decide +kernel
theorem dX7_says_90 : decode cX7_says 90 = .ok (.iconst 2, 1) := by decide +kernel
theorem dX7_says_91 : decode cX7_says 91 = .ok (.isub, 1) := by decide +kernel
theorem dX7_says_92 : decode cX7_says 92 = .ok (.istore 8, 2) := by decide +kernel
theorem dX7_says_94 : decode cX7_says 94 = .ok (.iload 7, 2) := by decide +kernel
theorem dX7_says_96 : decode cX7_says 96 = .ok (.ifCond .lt 25, 3) := by decide +kernel
theorem dX7_says_99 : decode cX7_says 99 = .ok (.iload 5, 2) := by decide +kernel
theorem dX7_says_101 : decode cX7_says 101 = .ok (.bipush 32, 2) := by decide +kernel
theorem dX7_says_103 : decode cX7_says 103 = .ok (.if_icmp .ge 18, 3) := by decide +kernel
theorem dX7_says_106 : decode cX7_says 106 = .ok (.aload_n 0, 1) := by decide +kernel
theorem dX7_says_107 : decode cX7_says 107 = .ok (.getfield 9, 3) := by decide +kernel
theorem dX7_says_110 : decode cX7_says 110 = .ok (.iload 5, 2) := by decide +kernel
theorem dX7_says_112 : decode cX7_says 112 = .ok (.iinc 5 1, 3) := by decide +kernel
theorem dX7_says_115 : decode cX7_says 115 = .ok (.iload 7, 2) := by decide +kernel
theorem dX7_says_117 : decode cX7_says 117 = .ok (.iastore, 1) := by decide +kernel
theorem dX7_says_118 : decode cX7_says 118 = .ok (.goto 154, 3) := by decide +kernel
theorem dX7_says_121 : decode cX7_says 121 = .ok (.iload 8, 2) := by decide +kernel
theorem dX7_says_123 : decode cX7_says 123 = .ok (.iconst 0, 1) := by decide +kernel
theorem dX7_says_124 : decode cX7_says 124 = .ok (.aload_n 2, 1) := by decide +kernel
theorem dX7_says_125 : decode cX7_says 125 = .ok (.arraylength, 1) := by decide +kernel
theorem dX7_says_126 : decode cX7_says 126 = .ok (.iconst 1, 1) := by decide +kernel
theorem dX7_says_127 : decode cX7_says 127 = .ok (.isub, 1) := by decide +kernel
theorem dX7_says_128 : decode cX7_says 128 = .ok (.invokestatic 28, 3) := by decide +kernel
theorem dX7_says_131 : decode cX7_says 131 = .ok (.ifCond .eq 27, 3) := by decide +kernel
theorem dX7_says_134 : decode cX7_says 134 = .ok (.iload 5, 2) := by decide +kernel
theorem dX7_says_136 : decode cX7_says 136 = .ok (.bipush 32, 2) := by decide +kernel
theorem dX7_says_138 : decode cX7_says 138 = .ok (.if_icmp .ge 20, 3) := by decide +kernel
theorem dX7_says_141 : decode cX7_says 141 = .ok (.aload_n 0, 1) := by decide +kernel
theorem dX7_says_142 : decode cX7_says 142 = .ok (.getfield 9, 3) := by decide +kernel
theorem dX7_says_145 : decode cX7_says 145 = .ok (.iload 5, 2) := by decide +kernel
theorem dX7_says_147 : decode cX7_says 147 = .ok (.iinc 5 1, 3) := by decide +kernel
theorem dX7_says_150 : decode cX7_says 150 = .ok (.aload_n 2, 1) := by decide +kernel
theorem dX7_says_151 : decode cX7_says 151 = .ok (.iload 8, 2) := by decide +kernel
theorem dX7_says_153 : decode cX7_says 153 = .ok (.iaload, 1) := by decide +kernel
theorem dX7_says_154 : decode cX7_says 154 = .ok (.iastore, 1) := by decide +kernel
theorem dX7_says_155 : decode cX7_says 155 = .ok (.goto 117, 3) := by decide +kernel
theorem dX7_says_158 : decode cX7_says 158 = .ok (.iload 7, 2) := by decide +kernel
theorem dX7_says_160 : decode cX7_says 160 = .ok (.bipush (-13), 2) := by decide +kernel
theorem dX7_says_162 : decode cX7_says 162 = .ok (.if_icmp .ne 37, 3) := by decide +kernel
theorem dX7_says_165 : decode cX7_says 165 = .ok (.iload 5, 2) := by decide +kernel
theorem dX7_says_167 : decode cX7_says 167 = .ok (.ifCond .le 32, 3) := by decide +kernel
theorem dX7_says_170 : decode cX7_says 170 = .ok (.aload_n 0, 1) := by decide +kernel
theorem dX7_says_171 : decode cX7_says 171 = .ok (.getfield 9, 3) := by decide +kernel
theorem dX7_says_174 : decode cX7_says 174 = .ok (.iload 5, 2) := by decide +kernel
theorem dX7_says_176 : decode cX7_says 176 = .ok (.iconst 1, 1) := by decide +kernel
theorem dX7_says_177 : decode cX7_says 177 = .ok (.isub, 1) := by decide +kernel
theorem dX7_says_178 : decode cX7_says 178 = .ok (.aload_n 0, 1) := by decide +kernel
theorem dX7_says_179 : decode cX7_says 179 = .ok (.getfield 9, 3) := by decide +kernel
theorem dX7_says_182 : decode cX7_says 182 = .ok (.iload 5, 2) := by decide +kernel
theorem dX7_says_184 : decode cX7_says 184 = .ok (.iconst 1, 1) := by decide +kernel
theorem dX7_says_185 : decode cX7_says 185 = .ok (.isub, 1) := by decide +kernel
theorem dX7_says_186 : decode cX7_says 186 = .ok (.iaload, 1) := by decide +kernel
theorem dX7_says_187 : decode cX7_says 187 = .ok (.ifCond .ne 7, 3) := by decide +kernel
theorem dX7_says_190 : decode cX7_says 190 = .ok (.iconst 1, 1) := by decide +kernel
theorem dX7_says_191 : decode cX7_says 191 = .ok (.goto 4, 3) := by decide +kernel
theorem dX7_says_194 : decode cX7_says 194 = .ok (.iconst 0, 1) := by decide +kernel
theorem dX7_says_195 : decode cX7_says 195 = .ok (.iastore, 1) := by decide +kernel
theorem dX7_says_196 : decode cX7_says 196 = .ok (.goto 76, 3) := by decide +kernel
theorem dX7_says_199 : decode cX7_says 199 = .ok (.iload 7, 2) := by decide +kernel
theorem dX7_says_201 : decode cX7_says 201 = .ok (.bipush (-14), 2) := by decide +kernel
theorem dX7_says_203 : decode cX7_says 203 = .ok (.if_icmp .ne 30, 3) := by decide +kernel
theorem dX7_says_206 : decode cX7_says 206 = .ok (.iload 5, 2) := by decide +kernel
theorem dX7_says_208 : decode cX7_says 208 = .ok (.ifCond .le 25, 3) := by decide +kernel
theorem dX7_says_211 : decode cX7_says 211 = .ok (.aload_n 0, 1) := by decide +kernel
theorem dX7_says_212 : decode cX7_says 212 = .ok (.getfield 9, 3) := by decide +kernel
theorem dX7_says_215 : decode cX7_says 215 = .ok (.iload 5, 2) := by decide +kernel
theorem dX7_says_217 : decode cX7_says 217 = .ok (.iconst 1, 1) := by decide +kernel
theorem dX7_says_218 : decode cX7_says 218 = .ok (.isub, 1) := by decide +kernel
theorem dX7_says_219 : decode cX7_says 219 = .ok (.aload_n 0, 1) := by decide +kernel
theorem dX7_says_220 : decode cX7_says 220 = .ok (.getfield 9, 3) := by decide +kernel
theorem dX7_says_223 : decode cX7_says 223 = .ok (.iload 5, 2) := by decide +kernel
theorem dX7_says_225 : decode cX7_says 225 = .ok (.iconst 1, 1) := by decide +kernel
theorem dX7_says_226 : decode cX7_says 226 = .ok (.isub, 1) := by decide +kernel
theorem dX7_says_227 : decode cX7_says 227 = .ok (.iaload, 1) := by decide +kernel
theorem dX7_says_228 : decode cX7_says 228 = .ok (.ineg, 1) := by decide +kernel
theorem dX7_says_229 : decode cX7_says 229 = .ok (.iastore, 1) := by decide +kernel
theorem dX7_says_230 : decode cX7_says 230 = .ok (.goto 42, 3) := by decide +kernel
theorem dX7_says_233 : decode cX7_says 233 = .ok (.iload 5, 2) := by decide +kernel
theorem dX7_says_235 : decode cX7_says 235 = .ok (.iconst 1, 1) := by decide +kernel
theorem dX7_says_236 : decode cX7_says 236 = .ok (.if_icmp .le 36, 3) := by decide +kernel
theorem dX7_says_239 : decode cX7_says 239 = .ok (.iinc 5 (-1), 3) := by decide +kernel
theorem dX7_says_242 : decode cX7_says 242 = .ok (.aload_n 0, 1) := by decide +kernel
theorem dX7_says_243 : decode cX7_says 243 = .ok (.getfield 9, 3) := by decide +kernel
theorem dX7_says_246 : decode cX7_says 246 = .ok (.iload 5, 2) := by decide +kernel
theorem dX7_says_248 : decode cX7_says 248 = .ok (.iconst 1, 1) := by decide +kernel
theorem dX7_says_249 : decode cX7_says 249 = .ok (.isub, 1) := by decide +kernel
theorem dX7_says_250 : decode cX7_says 250 = .ok (.iload 7, 2) := by decide +kernel
theorem dX7_says_252 : decode cX7_says 252 = .ok (.aload_n 0, 1) := by decide +kernel
theorem dX7_says_253 : decode cX7_says 253 = .ok (.getfield 9, 3) := by decide +kernel
theorem dX7_says_256 : decode cX7_says 256 = .ok (.iload 5, 2) := by decide +kernel
theorem dX7_says_258 : decode cX7_says 258 = .ok (.iconst 1, 1) := by decide +kernel
theorem dX7_says_259 : decode cX7_says 259 = .ok (.isub, 1) := by decide +kernel
theorem dX7_says_260 : decode cX7_says 260 = .ok (.iaload, 1) := by decide +kernel
theorem dX7_says_261 : decode cX7_says 261 = .ok (.aload_n 0, 1) := by decide +kernel
theorem dX7_says_262 : decode cX7_says 262 = .ok (.getfield 9, 3) := by decide +kernel
theorem dX7_says_265 : decode cX7_says 265 = .ok (.iload 5, 2) := by decide +kernel
theorem dX7_says_267 : decode cX7_says 267 = .ok (.iaload, 1) := by decide +kernel
theorem dX7_says_268 : decode cX7_says 268 = .ok (.invokestatic 34, 3) := by decide +kernel
theorem dX7_says_271 : decode cX7_says 271 = .ok (.iastore, 1) := by decide +kernel
theorem dX7_says_272 : decode cX7_says 272 = .ok (.iinc 6 1, 3) := by decide +kernel
theorem dX7_says_275 : decode cX7_says 275 = .ok (.goto (-214), 3) := by decide +kernel
theorem dX7_says_278 : decode cX7_says 278 = .ok (.iload 5, 2) := by decide +kernel
theorem dX7_says_280 : decode cX7_says 280 = .ok (.ifCond .le 15, 3) := by decide +kernel
theorem dX7_says_283 : decode cX7_says 283 = .ok (.aload_n 0, 1) := by decide +kernel
theorem dX7_says_284 : decode cX7_says 284 = .ok (.getfield 9, 3) := by decide +kernel
theorem dX7_says_287 : decode cX7_says 287 = .ok (.iload 5, 2) := by decide +kernel
theorem dX7_says_289 : decode cX7_says 289 = .ok (.iconst 1, 1) := by decide +kernel
theorem dX7_says_290 : decode cX7_says 290 = .ok (.isub, 1) := by decide +kernel
theorem dX7_says_291 : decode cX7_says 291 = .ok (.iaload, 1) := by decide +kernel
theorem dX7_says_292 : decode cX7_says 292 = .ok (.goto 4, 3) := by decide +kernel
theorem dX7_says_295 : decode cX7_says 295 = .ok (.iconst 0, 1) := by decide +kernel
theorem dX7_says_296 : decode cX7_says 296 = .ok (.istore 6, 2) := by decide +kernel
theorem dX7_says_298 : decode cX7_says 298 = .ok (.iconst 0, 1) := by decide +kernel
theorem dX7_says_299 : decode cX7_says 299 = .ok (.iload 6, 2) := by decide +kernel
theorem dX7_says_301 : decode cX7_says 301 = .ok (.iload_n 1, 1) := by decide +kernel
theorem dX7_says_302 : decode cX7_says 302 = .ok (.iconst 1, 1) := by decide +kernel
theorem dX7_says_303 : decode cX7_says 303 = .ok (.if_icmp .ne 8, 3) := by decide +kernel
theorem dX7_says_306 : decode cX7_says 306 = .ok (.bipush 99, 2) := by decide +kernel
theorem dX7_says_308 : decode cX7_says 308 = .ok (.goto 6, 3) := by decide +kernel
theorem dX7_says_311 : decode cX7_says 311 = .ok (.sipush 999, 3) := by decide +kernel
theorem dX7_says_314 : decode cX7_says 314 = .ok (.invokestatic 38, 3) := by decide +kernel
theorem dX7_says_317 : decode cX7_says 317 = .ok (.invokestatic 44, 3) := by decide +kernel
theorem dX7_says_320 : decode cX7_says 320 = .ok (.ireturn, 1) := by decide +kernel
theorem dX7_join_0 : decode cX7_join 0 = .ok (.iload_n 0, 1) := by decide +kernel
theorem dX7_join_1 : decode cX7_join 1 = .ok (.ineg, 1) := by decide +kernel
theorem dX7_join_2 : decode cX7_join 2 = .ok (.lookupswitch 116 #[(11, 58), (12, 72), (43, 108), (45, 112), (60, 86), (61, 97)], 58) := by decide +kernel
theorem dX7_join_60 : decode cX7_join 60 = .ok (.iload_n 1, 1) := by decide +kernel
theorem dX7_join_61 : decode cX7_join 61 = .ok (.ifCond .ne 7, 3) := by decide +kernel
theorem dX7_join_64 : decode cX7_join 64 = .ok (.iload_n 2, 1) := by decide +kernel
theorem dX7_join_65 : decode cX7_join 65 = .ok (.ifCond .eq 7, 3) := by decide +kernel
theorem dX7_join_68 : decode cX7_join 68 = .ok (.iconst 1, 1) := by decide +kernel
theorem dX7_join_69 : decode cX7_join 69 = .ok (.goto 4, 3) := by decide +kernel
theorem dX7_join_72 : decode cX7_join 72 = .ok (.iconst 0, 1) := by decide +kernel
theorem dX7_join_73 : decode cX7_join 73 = .ok (.ireturn, 1) := by decide +kernel
theorem dX7_join_74 : decode cX7_join 74 = .ok (.iload_n 1, 1) := by decide +kernel
theorem dX7_join_75 : decode cX7_join 75 = .ok (.ifCond .eq 11, 3) := by decide +kernel
theorem dX7_join_78 : decode cX7_join 78 = .ok (.iload_n 2, 1) := by decide +kernel
theorem dX7_join_79 : decode cX7_join 79 = .ok (.ifCond .eq 7, 3) := by decide +kernel
theorem dX7_join_82 : decode cX7_join 82 = .ok (.iconst 1, 1) := by decide +kernel
theorem dX7_join_83 : decode cX7_join 83 = .ok (.goto 4, 3) := by decide +kernel
theorem dX7_join_86 : decode cX7_join 86 = .ok (.iconst 0, 1) := by decide +kernel
theorem dX7_join_87 : decode cX7_join 87 = .ok (.ireturn, 1) := by decide +kernel
theorem dX7_join_88 : decode cX7_join 88 = .ok (.iload_n 1, 1) := by decide +kernel
theorem dX7_join_89 : decode cX7_join 89 = .ok (.iload_n 2, 1) := by decide +kernel
theorem dX7_join_90 : decode cX7_join 90 = .ok (.if_icmp .ge 7, 3) := by decide +kernel
theorem dX7_join_93 : decode cX7_join 93 = .ok (.iconst 1, 1) := by decide +kernel
theorem dX7_join_94 : decode cX7_join 94 = .ok (.goto 4, 3) := by decide +kernel
theorem dX7_join_97 : decode cX7_join 97 = .ok (.iconst 0, 1) := by decide +kernel
theorem dX7_join_98 : decode cX7_join 98 = .ok (.ireturn, 1) := by decide +kernel
theorem dX7_join_99 : decode cX7_join 99 = .ok (.iload_n 1, 1) := by decide +kernel
theorem dX7_join_100 : decode cX7_join 100 = .ok (.iload_n 2, 1) := by decide +kernel
theorem dX7_join_101 : decode cX7_join 101 = .ok (.if_icmp .ne 7, 3) := by decide +kernel
theorem dX7_join_104 : decode cX7_join 104 = .ok (.iconst 1, 1) := by decide +kernel
theorem dX7_join_105 : decode cX7_join 105 = .ok (.goto 4, 3) := by decide +kernel
theorem dX7_join_108 : decode cX7_join 108 = .ok (.iconst 0, 1) := by decide +kernel
theorem dX7_join_109 : decode cX7_join 109 = .ok (.ireturn, 1) := by decide +kernel
theorem dX7_join_110 : decode cX7_join 110 = .ok (.iload_n 1, 1) := by decide +kernel
theorem dX7_join_111 : decode cX7_join 111 = .ok (.iload_n 2, 1) := by decide +kernel
theorem dX7_join_112 : decode cX7_join 112 = .ok (.iadd, 1) := by decide +kernel
theorem dX7_join_113 : decode cX7_join 113 = .ok (.ireturn, 1) := by decide +kernel
theorem dX7_join_114 : decode cX7_join 114 = .ok (.iload_n 1, 1) := by decide +kernel
theorem dX7_join_115 : decode cX7_join 115 = .ok (.iload_n 2, 1) := by decide +kernel
theorem dX7_join_116 : decode cX7_join 116 = .ok (.isub, 1) := by decide +kernel
theorem dX7_join_117 : decode cX7_join 117 = .ok (.ireturn, 1) := by decide +kernel
theorem dX7_join_118 : decode cX7_join 118 = .ok (.iload_n 1, 1) := by decide +kernel
theorem dX7_join_119 : decode cX7_join 119 = .ok (.iload_n 2, 1) := by decide +kernel
theorem dX7_join_120 : decode cX7_join 120 = .ok (.imul, 1) := by decide +kernel
theorem dX7_join_121 : decode cX7_join 121 = .ok (.ireturn, 1) := by decide +kernel
theorem dX8_init_0 : decode cX8_init 0 = .ok (.aload_n 0, 1) := by decide +kernel
theorem dX8_init_1 : decode cX8_init 1 = .ok (.invokespecial 3, 3) := by decide +kernel
theorem dX8_init_4 : decode cX8_init 4 = .ok (.aload_n 0, 1) := by decide +kernel
theorem dX8_init_5 : decode cX8_init 5 = .ok (.new 9, 3) := by decide +kernel
theorem dX8_init_8 : decode cX8_init 8 = .ok (.dup, 1) := by decide +kernel
theorem dX8_init_9 : decode cX8_init 9 = .ok (.aload_n 1, 1) := by decide +kernel
theorem dX8_init_10 : decode cX8_init 10 = .ok (.invokespecial 11, 3) := by decide +kernel
theorem dX8_init_13 : decode cX8_init 13 = .ok (.putfield 14, 3) := by decide +kernel
theorem dX8_init_16 : decode cX8_init 16 = .ok (.return_, 1) := by decide +kernel
theorem dX8_startFrom_0 : decode cX8_startFrom 0 = .ok (.aload_n 0, 1) := by decide +kernel
theorem dX8_startFrom_1 : decode cX8_startFrom 1 = .ok (.getfield 14, 3) := by decide +kernel
theorem dX8_startFrom_4 : decode cX8_startFrom 4 = .ok (.aload_n 1, 1) := by decide +kernel
theorem dX8_startFrom_5 : decode cX8_startFrom 5 = .ok (.invokevirtual 20, 3) := by decide +kernel
theorem dX8_startFrom_8 : decode cX8_startFrom 8 = .ok (.aload_n 0, 1) := by decide +kernel
theorem dX8_startFrom_9 : decode cX8_startFrom 9 = .ok (.iconst (-1), 1) := by decide +kernel
theorem dX8_startFrom_10 : decode cX8_startFrom 10 = .ok (.putfield 24, 3) := by decide +kernel
theorem dX8_startFrom_13 : decode cX8_startFrom 13 = .ok (.aload_n 0, 1) := by decide +kernel
theorem dX8_startFrom_14 : decode cX8_startFrom 14 = .ok (.iconst 0, 1) := by decide +kernel
theorem dX8_startFrom_15 : decode cX8_startFrom 15 = .ok (.putfield 28, 3) := by decide +kernel
theorem dX8_startFrom_18 : decode cX8_startFrom 18 = .ok (.return_, 1) := by decide +kernel
theorem dX8_tryOrders_0 : decode cX8_tryOrders 0 = .ok (.iload_n 1, 1) := by decide +kernel
theorem dX8_tryOrders_1 : decode cX8_tryOrders 1 = .ok (.aload_n 0, 1) := by decide +kernel
theorem dX8_tryOrders_2 : decode cX8_tryOrders 2 = .ok (.getfield 14, 3) := by decide +kernel
theorem dX8_tryOrders_5 : decode cX8_tryOrders 5 = .ok (.getfield 31, 3) := by decide +kernel
theorem dX8_tryOrders_8 : decode cX8_tryOrders 8 = .ok (.if_icmp .lt 32, 3) := by decide +kernel
theorem dX8_tryOrders_11 : decode cX8_tryOrders 11 = .ok (.aload_n 0, 1) := by decide +kernel
theorem dX8_tryOrders_12 : decode cX8_tryOrders 12 = .ok (.getfield 24, 3) := by decide +kernel
theorem dX8_tryOrders_15 : decode cX8_tryOrders 15 = .ok (.iconst (-1), 1) := by decide +kernel
theorem dX8_tryOrders_16 : decode cX8_tryOrders 16 = .ok (.if_icmp .eq 12, 3) := by decide +kernel
theorem dX8_tryOrders_19 : decode cX8_tryOrders 19 = .ok (.iload 4, 2) := by decide +kernel
theorem dX8_tryOrders_21 : decode cX8_tryOrders 21 = .ok (.aload_n 0, 1) := by decide +kernel
theorem dX8_tryOrders_22 : decode cX8_tryOrders 22 = .ok (.getfield 28, 3) := by decide +kernel
theorem dX8_tryOrders_25 : decode cX8_tryOrders 25 = .ok (.if_icmp .le 14, 3) := by decide +kernel
theorem dX8_tryOrders_28 : decode cX8_tryOrders 28 = .ok (.aload_n 0, 1) := by decide +kernel
theorem dX8_tryOrders_29 : decode cX8_tryOrders 29 = .ok (.iload_n 3, 1) := by decide +kernel
theorem dX8_tryOrders_30 : decode cX8_tryOrders 30 = .ok (.putfield 24, 3) := by decide +kernel
theorem dX8_tryOrders_33 : decode cX8_tryOrders 33 = .ok (.aload_n 0, 1) := by decide +kernel
theorem dX8_tryOrders_34 : decode cX8_tryOrders 34 = .ok (.iload 4, 2) := by decide +kernel
theorem dX8_tryOrders_36 : decode cX8_tryOrders 36 = .ok (.putfield 28, 3) := by decide +kernel
theorem dX8_tryOrders_39 : decode cX8_tryOrders 39 = .ok (.return_, 1) := by decide +kernel
theorem dX8_tryOrders_40 : decode cX8_tryOrders 40 = .ok (.iconst 0, 1) := by decide +kernel
theorem dX8_tryOrders_41 : decode cX8_tryOrders 41 = .ok (.istore 5, 2) := by decide +kernel
theorem dX8_tryOrders_43 : decode cX8_tryOrders 43 = .ok (.iload 5, 2) := by decide +kernel
theorem dX8_tryOrders_45 : decode cX8_tryOrders 45 = .ok (.aload_n 0, 1) := by decide +kernel
theorem dX8_tryOrders_46 : decode cX8_tryOrders 46 = .ok (.getfield 14, 3) := by decide +kernel
theorem dX8_tryOrders_49 : decode cX8_tryOrders 49 = .ok (.getfield 31, 3) := by decide +kernel
theorem dX8_tryOrders_52 : decode cX8_tryOrders 52 = .ok (.if_icmp .ge 42, 3) := by decide +kernel
theorem dX8_tryOrders_55 : decode cX8_tryOrders 55 = .ok (.iload_n 2, 1) := by decide +kernel
theorem dX8_tryOrders_56 : decode cX8_tryOrders 56 = .ok (.iload 5, 2) := by decide +kernel
theorem dX8_tryOrders_58 : decode cX8_tryOrders 58 = .ok (.ishr, 1) := by decide +kernel
theorem dX8_tryOrders_59 : decode cX8_tryOrders 59 = .ok (.iconst 1, 1) := by decide +kernel
theorem dX8_tryOrders_60 : decode cX8_tryOrders 60 = .ok (.iand, 1) := by decide +kernel
theorem dX8_tryOrders_61 : decode cX8_tryOrders 61 = .ok (.ifCond .ne 27, 3) := by decide +kernel
theorem dX8_tryOrders_64 : decode cX8_tryOrders 64 = .ok (.aload_n 0, 1) := by decide +kernel
theorem dX8_tryOrders_65 : decode cX8_tryOrders 65 = .ok (.iload 5, 2) := by decide +kernel
theorem dX8_tryOrders_67 : decode cX8_tryOrders 67 = .ok (.iload_n 1, 1) := by decide +kernel
theorem dX8_tryOrders_68 : decode cX8_tryOrders 68 = .ok (.iload_n 2, 1) := by decide +kernel
theorem dX8_tryOrders_69 : decode cX8_tryOrders 69 = .ok (.iconst 1, 1) := by decide +kernel
theorem dX8_tryOrders_70 : decode cX8_tryOrders 70 = .ok (.iload 5, 2) := by decide +kernel
theorem dX8_tryOrders_72 : decode cX8_tryOrders 72 = .ok (.ishl, 1) := by decide +kernel
theorem dX8_tryOrders_73 : decode cX8_tryOrders 73 = .ok (.ior, 1) := by decide +kernel
theorem dX8_tryOrders_74 : decode cX8_tryOrders 74 = .ok (.bipush 10, 2) := by decide +kernel
theorem dX8_tryOrders_76 : decode cX8_tryOrders 76 = .ok (.iload_n 3, 1) := by decide +kernel
theorem dX8_tryOrders_77 : decode cX8_tryOrders 77 = .ok (.imul, 1) := by decide +kernel
theorem dX8_tryOrders_78 : decode cX8_tryOrders 78 = .ok (.iload 5, 2) := by decide +kernel
theorem dX8_tryOrders_80 : decode cX8_tryOrders 80 = .ok (.iadd, 1) := by decide +kernel
theorem dX8_tryOrders_81 : decode cX8_tryOrders 81 = .ok (.iconst 1, 1) := by decide +kernel
theorem dX8_tryOrders_82 : decode cX8_tryOrders 82 = .ok (.iadd, 1) := by decide +kernel
theorem dX8_tryOrders_83 : decode cX8_tryOrders 83 = .ok (.iload 4, 2) := by decide +kernel
theorem dX8_tryOrders_85 : decode cX8_tryOrders 85 = .ok (.invokevirtual 34, 3) := by decide +kernel
theorem dX8_tryOrders_88 : decode cX8_tryOrders 88 = .ok (.iinc 5 1, 3) := by decide +kernel
theorem dX8_tryOrders_91 : decode cX8_tryOrders 91 = .ok (.goto (-48), 3) := by decide +kernel
theorem dX8_tryOrders_94 : decode cX8_tryOrders 94 = .ok (.return_, 1) := by decide +kernel
theorem dX8_tryNext_0 : decode cX8_tryNext 0 = .ok (.aload_n 0, 1) := by decide +kernel
theorem dX8_tryNext_1 : decode cX8_tryNext 1 = .ok (.getfield 14, 3) := by decide +kernel
theorem dX8_tryNext_4 : decode cX8_tryNext 4 = .ok (.getfield 38, 3) := by decide +kernel
theorem dX8_tryNext_7 : decode cX8_tryNext 7 = .ok (.iload_n 1, 1) := by decide +kernel
theorem dX8_tryNext_8 : decode cX8_tryNext 8 = .ok (.aaload, 1) := by decide +kernel
theorem dX8_tryNext_9 : decode cX8_tryNext 9 = .ok (.astore 6, 2) := by decide +kernel
theorem dX8_tryNext_11 : decode cX8_tryNext 11 = .ok (.aload_n 0, 1) := by decide +kernel
theorem dX8_tryNext_12 : decode cX8_tryNext 12 = .ok (.getfield 14, 3) := by decide +kernel
theorem dX8_tryNext_15 : decode cX8_tryNext 15 = .ok (.aload 6, 2) := by decide +kernel
theorem dX8_tryNext_17 : decode cX8_tryNext 17 = .ok (.invokevirtual 42, 3) := by decide +kernel
theorem dX8_tryNext_20 : decode cX8_tryNext 20 = .ok (.aload_n 0, 1) := by decide +kernel
theorem dX8_tryNext_21 : decode cX8_tryNext 21 = .ok (.getfield 14, 3) := by decide +kernel
theorem dX8_tryNext_24 : decode cX8_tryNext 24 = .ok (.invokevirtual 46, 3) := by decide +kernel
theorem dX8_tryNext_27 : decode cX8_tryNext 27 = .ok (.astore 7, 2) := by decide +kernel
theorem dX8_tryNext_29 : decode cX8_tryNext 29 = .ok (.aload 7, 2) := by decide +kernel
theorem dX8_tryNext_31 : decode cX8_tryNext 31 = .ok (.ifnonnull 16, 3) := by decide +kernel
theorem dX8_tryNext_34 : decode cX8_tryNext 34 = .ok (.aload_n 0, 1) := by decide +kernel
theorem dX8_tryNext_35 : decode cX8_tryNext 35 = .ok (.iload_n 2, 1) := by decide +kernel
theorem dX8_tryNext_36 : decode cX8_tryNext 36 = .ok (.iconst 1, 1) := by decide +kernel
theorem dX8_tryNext_37 : decode cX8_tryNext 37 = .ok (.iadd, 1) := by decide +kernel
theorem dX8_tryNext_38 : decode cX8_tryNext 38 = .ok (.iload_n 3, 1) := by decide +kernel
theorem dX8_tryNext_39 : decode cX8_tryNext 39 = .ok (.iload 4, 2) := by decide +kernel
theorem dX8_tryNext_41 : decode cX8_tryNext 41 = .ok (.iload 5, 2) := by decide +kernel
theorem dX8_tryNext_43 : decode cX8_tryNext 43 = .ok (.invokevirtual 50, 3) := by decide +kernel
theorem dX8_tryNext_46 : decode cX8_tryNext 46 = .ok (.return_, 1) := by decide +kernel
theorem dX8_tryNext_47 : decode cX8_tryNext 47 = .ok (.aload 6, 2) := by decide +kernel
theorem dX8_tryNext_49 : decode cX8_tryNext 49 = .ok (.getfield 54, 3) := by decide +kernel
theorem dX8_tryNext_52 : decode cX8_tryNext 52 = .ok (.istore 8, 2) := by decide +kernel
theorem dX8_tryNext_54 : decode cX8_tryNext 54 = .ok (.aload 6, 2) := by decide +kernel
theorem dX8_tryNext_56 : decode cX8_tryNext 56 = .ok (.getfield 59, 3) := by decide +kernel
theorem dX8_tryNext_59 : decode cX8_tryNext 59 = .ok (.istore 9, 2) := by decide +kernel
theorem dX8_tryNext_61 : decode cX8_tryNext 61 = .ok (.aload 7, 2) := by decide +kernel
theorem dX8_tryNext_63 : decode cX8_tryNext 63 = .ok (.getfield 62, 3) := by decide +kernel
theorem dX8_tryNext_66 : decode cX8_tryNext 66 = .ok (.istore 10, 2) := by decide +kernel
theorem dX8_tryNext_68 : decode cX8_tryNext 68 = .ok (.aload_n 0, 1) := by decide +kernel
theorem dX8_tryNext_69 : decode cX8_tryNext 69 = .ok (.getfield 14, 3) := by decide +kernel
theorem dX8_tryNext_72 : decode cX8_tryNext 72 = .ok (.aload 6, 2) := by decide +kernel
theorem dX8_tryNext_74 : decode cX8_tryNext 74 = .ok (.aload 7, 2) := by decide +kernel
theorem dX8_tryNext_76 : decode cX8_tryNext 76 = .ok (.aload_n 0, 1) := by decide +kernel
theorem dX8_tryNext_77 : decode cX8_tryNext 77 = .ok (.getfield 14, 3) := by decide +kernel
theorem dX8_tryNext_80 : decode cX8_tryNext 80 = .ok (.invokevirtual 67, 3) := by decide +kernel
theorem dX8_tryNext_83 : decode cX8_tryNext 83 = .ok (.invokevirtual 71, 3) := by decide +kernel
theorem dX8_tryNext_86 : decode cX8_tryNext 86 = .ok (.pop, 1) := by decide +kernel
theorem dX8_tryNext_87 : decode cX8_tryNext 87 = .ok (.aload_n 0, 1) := by decide +kernel
theorem dX8_tryNext_88 : decode cX8_tryNext 88 = .ok (.iload_n 2, 1) := by decide +kernel
theorem dX8_tryNext_89 : decode cX8_tryNext 89 = .ok (.iconst 1, 1) := by decide +kernel
theorem dX8_tryNext_90 : decode cX8_tryNext 90 = .ok (.iadd, 1) := by decide +kernel
theorem dX8_tryNext_91 : decode cX8_tryNext 91 = .ok (.iload_n 3, 1) := by decide +kernel
theorem dX8_tryNext_92 : decode cX8_tryNext 92 = .ok (.iload 4, 2) := by decide +kernel
theorem dX8_tryNext_94 : decode cX8_tryNext 94 = .ok (.iload 5, 2) := by decide +kernel
theorem dX8_tryNext_96 : decode cX8_tryNext 96 = .ok (.aload_n 0, 1) := by decide +kernel
theorem dX8_tryNext_97 : decode cX8_tryNext 97 = .ok (.getfield 14, 3) := by decide +kernel
theorem dX8_tryNext_100 : decode cX8_tryNext 100 = .ok (.getfield 75, 3) := by decide +kernel
theorem dX8_tryNext_103 : decode cX8_tryNext 103 = .ok (.iadd, 1) := by decide +kernel
theorem dX8_tryNext_104 : decode cX8_tryNext 104 = .ok (.invokevirtual 50, 3) := by decide +kernel
theorem dX8_tryNext_107 : decode cX8_tryNext 107 = .ok (.aload 6, 2) := by decide +kernel
theorem dX8_tryNext_109 : decode cX8_tryNext 109 = .ok (.aload 7, 2) := by decide +kernel
theorem dX8_tryNext_111 : decode cX8_tryNext 111 = .ok (.iload 10, 2) := by decide +kernel
theorem dX8_tryNext_113 : decode cX8_tryNext 113 = .ok (.iload 8, 2) := by decide +kernel
theorem dX8_tryNext_115 : decode cX8_tryNext 115 = .ok (.iload 9, 2) := by decide +kernel
theorem dX8_tryNext_117 : decode cX8_tryNext 117 = .ok (.invokevirtual 78, 3) := by decide +kernel
theorem dX8_tryNext_120 : decode cX8_tryNext 120 = .ok (.return_, 1) := by decide +kernel
theorem dX8_tryDuel_0 : decode cX8_tryDuel 0 = .ok (.iload_n 3, 1) := by decide +kernel
theorem dX8_tryDuel_1 : decode cX8_tryDuel 1 = .ok (.ifCond .gt 5, 3) := by decide +kernel
theorem dX8_tryDuel_4 : decode cX8_tryDuel 4 = .ok (.iconst 0, 1) := by decide +kernel
theorem dX8_tryDuel_5 : decode cX8_tryDuel 5 = .ok (.ireturn, 1) := by decide +kernel
theorem dX8_tryDuel_6 : decode cX8_tryDuel 6 = .ok (.iconst (-1), 1) := by decide +kernel
theorem dX8_tryDuel_7 : decode cX8_tryDuel 7 = .ok (.istore 4, 2) := by decide +kernel
theorem dX8_tryDuel_9 : decode cX8_tryDuel 9 = .ok (.ldc 82, 2) := by decide +kernel
theorem dX8_tryDuel_11 : decode cX8_tryDuel 11 = .ok (.istore 5, 2) := by decide +kernel
theorem dX8_tryDuel_13 : decode cX8_tryDuel 13 = .ok (.iconst 0, 1) := by decide +kernel
theorem dX8_tryDuel_14 : decode cX8_tryDuel 14 = .ok (.istore 6, 2) := by decide +kernel
theorem dX8_tryDuel_16 : decode cX8_tryDuel 16 = .ok (.iload 6, 2) := by decide +kernel
theorem dX8_tryDuel_18 : decode cX8_tryDuel 18 = .ok (.aload_n 0, 1) := by decide +kernel
theorem dX8_tryDuel_19 : decode cX8_tryDuel 19 = .ok (.getfield 14, 3) := by decide +kernel
theorem dX8_tryDuel_22 : decode cX8_tryDuel 22 = .ok (.getfield 83, 3) := by decide +kernel
theorem dX8_tryDuel_25 : decode cX8_tryDuel 25 = .ok (.bipush 16, 2) := by decide +kernel
theorem dX8_tryDuel_27 : decode cX8_tryDuel 27 = .ok (.imul, 1) := by decide +kernel
theorem dX8_tryDuel_28 : decode cX8_tryDuel 28 = .ok (.if_icmp .ge 38, 3) := by decide +kernel
theorem dX8_tryDuel_31 : decode cX8_tryDuel 31 = .ok (.aload_n 0, 1) := by decide +kernel
theorem dX8_tryDuel_32 : decode cX8_tryDuel 32 = .ok (.aload_n 1, 1) := by decide +kernel
theorem dX8_tryDuel_33 : decode cX8_tryDuel 33 = .ok (.aload_n 2, 1) := by decide +kernel
theorem dX8_tryDuel_34 : decode cX8_tryDuel 34 = .ok (.iload_n 3, 1) := by decide +kernel
theorem dX8_tryDuel_35 : decode cX8_tryDuel 35 = .ok (.iload 6, 2) := by decide +kernel
theorem dX8_tryDuel_37 : decode cX8_tryDuel 37 = .ok (.invokevirtual 86, 3) := by decide +kernel
theorem dX8_tryDuel_40 : decode cX8_tryDuel 40 = .ok (.istore 7, 2) := by decide +kernel
theorem dX8_tryDuel_42 : decode cX8_tryDuel 42 = .ok (.iload 7, 2) := by decide +kernel
theorem dX8_tryDuel_44 : decode cX8_tryDuel 44 = .ok (.iload 5, 2) := by decide +kernel
theorem dX8_tryDuel_46 : decode cX8_tryDuel 46 = .ok (.if_icmp .le 14, 3) := by decide +kernel
theorem dX8_tryDuel_49 : decode cX8_tryDuel 49 = .ok (.iload 6, 2) := by decide +kernel
theorem dX8_tryDuel_51 : decode cX8_tryDuel 51 = .ok (.invokestatic 90, 3) := by decide +kernel
theorem dX8_tryDuel_54 : decode cX8_tryDuel 54 = .ok (.istore 4, 2) := by decide +kernel
theorem dX8_tryDuel_56 : decode cX8_tryDuel 56 = .ok (.iload 7, 2) := by decide +kernel
theorem dX8_tryDuel_58 : decode cX8_tryDuel 58 = .ok (.istore 5, 2) := by decide +kernel
theorem dX8_tryDuel_60 : decode cX8_tryDuel 60 = .ok (.iinc 6 1, 3) := by decide +kernel
theorem dX8_tryDuel_63 : decode cX8_tryDuel 63 = .ok (.goto (-47), 3) := by decide +kernel
theorem dX8_tryDuel_66 : decode cX8_tryDuel 66 = .ok (.iload 4, 2) := by decide +kernel
theorem dX8_tryDuel_68 : decode cX8_tryDuel 68 = .ok (.iconst (-1), 1) := by decide +kernel
theorem dX8_tryDuel_69 : decode cX8_tryDuel 69 = .ok (.if_icmp .ne 15, 3) := by decide +kernel
theorem dX8_tryDuel_72 : decode cX8_tryDuel 72 = .ok (.aload_n 0, 1) := by decide +kernel
theorem dX8_tryDuel_73 : decode cX8_tryDuel 73 = .ok (.aload_n 2, 1) := by decide +kernel
theorem dX8_tryDuel_74 : decode cX8_tryDuel 74 = .ok (.aload_n 1, 1) := by decide +kernel
theorem dX8_tryDuel_75 : decode cX8_tryDuel 75 = .ok (.iload_n 3, 1) := by decide +kernel
theorem dX8_tryDuel_76 : decode cX8_tryDuel 76 = .ok (.iconst 1, 1) := by decide +kernel
theorem dX8_tryDuel_77 : decode cX8_tryDuel 77 = .ok (.isub, 1) := by decide +kernel
theorem dX8_tryDuel_78 : decode cX8_tryDuel 78 = .ok (.invokevirtual 94, 3) := by decide +kernel
theorem dX8_tryDuel_81 : decode cX8_tryDuel 81 = .ok (.ineg, 1) := by decide +kernel
theorem dX8_tryDuel_82 : decode cX8_tryDuel 82 = .ok (.istore 5, 2) := by decide +kernel
theorem dX8_tryDuel_84 : decode cX8_tryDuel 84 = .ok (.aload_n 0, 1) := by decide +kernel
theorem dX8_tryDuel_85 : decode cX8_tryDuel 85 = .ok (.iload 4, 2) := by decide +kernel
theorem dX8_tryDuel_87 : decode cX8_tryDuel 87 = .ok (.putfield 98, 3) := by decide +kernel
theorem dX8_tryDuel_90 : decode cX8_tryDuel 90 = .ok (.iload 5, 2) := by decide +kernel
theorem dX8_tryDuel_92 : decode cX8_tryDuel 92 = .ok (.ireturn, 1) := by decide +kernel
theorem dX8_tryTurn_0 : decode cX8_tryTurn 0 = .ok (.aload_n 0, 1) := by decide +kernel
theorem dX8_tryTurn_1 : decode cX8_tryTurn 1 = .ok (.getfield 14, 3) := by decide +kernel
theorem dX8_tryTurn_4 : decode cX8_tryTurn 4 = .ok (.getfield 101, 3) := by decide +kernel
theorem dX8_tryTurn_7 : decode cX8_tryTurn 7 = .ok (.iload 4, 2) := by decide +kernel
theorem dX8_tryTurn_9 : decode cX8_tryTurn 9 = .ok (.bipush 16, 2) := by decide +kernel
theorem dX8_tryTurn_11 : decode cX8_tryTurn 11 = .ok (.idiv, 1) := by decide +kernel
theorem dX8_tryTurn_12 : decode cX8_tryTurn 12 = .ok (.aaload, 1) := by decide +kernel
theorem dX8_tryTurn_13 : decode cX8_tryTurn 13 = .ok (.astore 5, 2) := by decide +kernel
theorem dX8_tryTurn_15 : decode cX8_tryTurn 15 = .ok (.aload_n 1, 1) := by decide +kernel
theorem dX8_tryTurn_16 : decode cX8_tryTurn 16 = .ok (.getfield 54, 3) := by decide +kernel
theorem dX8_tryTurn_19 : decode cX8_tryTurn 19 = .ok (.istore 6, 2) := by decide +kernel
theorem dX8_tryTurn_21 : decode cX8_tryTurn 21 = .ok (.aload_n 1, 1) := by decide +kernel
theorem dX8_tryTurn_22 : decode cX8_tryTurn 22 = .ok (.getfield 59, 3) := by decide +kernel
theorem dX8_tryTurn_25 : decode cX8_tryTurn 25 = .ok (.istore 7, 2) := by decide +kernel
theorem dX8_tryTurn_27 : decode cX8_tryTurn 27 = .ok (.aload 5, 2) := by decide +kernel
theorem dX8_tryTurn_29 : decode cX8_tryTurn 29 = .ok (.getfield 62, 3) := by decide +kernel
theorem dX8_tryTurn_32 : decode cX8_tryTurn 32 = .ok (.istore 8, 2) := by decide +kernel
theorem dX8_tryTurn_34 : decode cX8_tryTurn 34 = .ok (.aload_n 0, 1) := by decide +kernel
theorem dX8_tryTurn_35 : decode cX8_tryTurn 35 = .ok (.getfield 14, 3) := by decide +kernel
theorem dX8_tryTurn_38 : decode cX8_tryTurn 38 = .ok (.aload_n 1, 1) := by decide +kernel
theorem dX8_tryTurn_39 : decode cX8_tryTurn 39 = .ok (.aload 5, 2) := by decide +kernel
theorem dX8_tryTurn_41 : decode cX8_tryTurn 41 = .ok (.iload 4, 2) := by decide +kernel
theorem dX8_tryTurn_43 : decode cX8_tryTurn 43 = .ok (.bipush 16, 2) := by decide +kernel
theorem dX8_tryTurn_45 : decode cX8_tryTurn 45 = .ok (.irem, 1) := by decide +kernel
theorem dX8_tryTurn_46 : decode cX8_tryTurn 46 = .ok (.invokevirtual 71, 3) := by decide +kernel
theorem dX8_tryTurn_49 : decode cX8_tryTurn 49 = .ok (.ifCond .ne 6, 3) := by decide +kernel
theorem dX8_tryTurn_52 : decode cX8_tryTurn 52 = .ok (.ldc 82, 2) := by decide +kernel
theorem dX8_tryTurn_54 : decode cX8_tryTurn 54 = .ok (.ireturn, 1) := by decide +kernel
theorem dX8_tryTurn_55 : decode cX8_tryTurn 55 = .ok (.aload_n 0, 1) := by decide +kernel
theorem dX8_tryTurn_56 : decode cX8_tryTurn 56 = .ok (.getfield 14, 3) := by decide +kernel
theorem dX8_tryTurn_59 : decode cX8_tryTurn 59 = .ok (.getfield 75, 3) := by decide +kernel
theorem dX8_tryTurn_62 : decode cX8_tryTurn 62 = .ok (.istore 9, 2) := by decide +kernel
theorem dX8_tryTurn_64 : decode cX8_tryTurn 64 = .ok (.iload 9, 2) := by decide +kernel
theorem dX8_tryTurn_66 : decode cX8_tryTurn 66 = .ok (.aload_n 0, 1) := by decide +kernel
theorem dX8_tryTurn_67 : decode cX8_tryTurn 67 = .ok (.aload_n 2, 1) := by decide +kernel
theorem dX8_tryTurn_68 : decode cX8_tryTurn 68 = .ok (.aload_n 1, 1) := by decide +kernel
theorem dX8_tryTurn_69 : decode cX8_tryTurn 69 = .ok (.iload_n 3, 1) := by decide +kernel
theorem dX8_tryTurn_70 : decode cX8_tryTurn 70 = .ok (.iconst 1, 1) := by decide +kernel
theorem dX8_tryTurn_71 : decode cX8_tryTurn 71 = .ok (.isub, 1) := by decide +kernel
theorem dX8_tryTurn_72 : decode cX8_tryTurn 72 = .ok (.invokevirtual 94, 3) := by decide +kernel
theorem dX8_tryTurn_75 : decode cX8_tryTurn 75 = .ok (.isub, 1) := by decide +kernel
theorem dX8_tryTurn_76 : decode cX8_tryTurn 76 = .ok (.istore 10, 2) := by decide +kernel
theorem dX8_tryTurn_78 : decode cX8_tryTurn 78 = .ok (.aload_n 1, 1) := by decide +kernel
theorem dX8_tryTurn_79 : decode cX8_tryTurn 79 = .ok (.aload 5, 2) := by decide +kernel
theorem dX8_tryTurn_81 : decode cX8_tryTurn 81 = .ok (.iload 8, 2) := by decide +kernel
theorem dX8_tryTurn_83 : decode cX8_tryTurn 83 = .ok (.iload 6, 2) := by decide +kernel
theorem dX8_tryTurn_85 : decode cX8_tryTurn 85 = .ok (.iload 7, 2) := by decide +kernel
theorem dX8_tryTurn_87 : decode cX8_tryTurn 87 = .ok (.invokevirtual 78, 3) := by decide +kernel
theorem dX8_tryTurn_90 : decode cX8_tryTurn 90 = .ok (.iload 10, 2) := by decide +kernel
theorem dX8_tryTurn_92 : decode cX8_tryTurn 92 = .ok (.ireturn, 1) := by decide +kernel
theorem dX8_followDay_0 : decode cX8_followDay 0 = .ok (.iconst 0, 1) := by decide +kernel
theorem dX8_followDay_1 : decode cX8_followDay 1 = .ok (.istore_n 2, 1) := by decide +kernel
theorem dX8_followDay_2 : decode cX8_followDay 2 = .ok (.iload_n 2, 1) := by decide +kernel
theorem dX8_followDay_3 : decode cX8_followDay 3 = .ok (.iconst 2, 1) := by decide +kernel
theorem dX8_followDay_4 : decode cX8_followDay 4 = .ok (.iadd, 1) := by decide +kernel
theorem dX8_followDay_5 : decode cX8_followDay 5 = .ok (.aload_n 1, 1) := by decide +kernel
theorem dX8_followDay_6 : decode cX8_followDay 6 = .ok (.getfield 105, 3) := by decide +kernel
theorem dX8_followDay_9 : decode cX8_followDay 9 = .ok (.if_icmp .ge 74, 3) := by decide +kernel
theorem dX8_followDay_12 : decode cX8_followDay 12 = .ok (.aload_n 0, 1) := by decide +kernel
theorem dX8_followDay_13 : decode cX8_followDay 13 = .ok (.getfield 14, 3) := by decide +kernel
theorem dX8_followDay_16 : decode cX8_followDay 16 = .ok (.aload_n 1, 1) := by decide +kernel
theorem dX8_followDay_17 : decode cX8_followDay 17 = .ok (.getfield 110, 3) := by decide +kernel
theorem dX8_followDay_20 : decode cX8_followDay 20 = .ok (.iload_n 2, 1) := by decide +kernel
theorem dX8_followDay_21 : decode cX8_followDay 21 = .ok (.iaload, 1) := by decide +kernel
theorem dX8_followDay_22 : decode cX8_followDay 22 = .ok (.invokevirtual 114, 3) := by decide +kernel
theorem dX8_followDay_25 : decode cX8_followDay 25 = .ok (.astore_n 3, 1) := by decide +kernel
theorem dX8_followDay_26 : decode cX8_followDay 26 = .ok (.aload_n 0, 1) := by decide +kernel
theorem dX8_followDay_27 : decode cX8_followDay 27 = .ok (.getfield 14, 3) := by decide +kernel
theorem dX8_followDay_30 : decode cX8_followDay 30 = .ok (.aload_n 1, 1) := by decide +kernel
theorem dX8_followDay_31 : decode cX8_followDay 31 = .ok (.getfield 110, 3) := by decide +kernel
theorem dX8_followDay_34 : decode cX8_followDay 34 = .ok (.iload_n 2, 1) := by decide +kernel
theorem dX8_followDay_35 : decode cX8_followDay 35 = .ok (.iconst 1, 1) := by decide +kernel
theorem dX8_followDay_36 : decode cX8_followDay 36 = .ok (.iadd, 1) := by decide +kernel
theorem dX8_followDay_37 : decode cX8_followDay 37 = .ok (.iaload, 1) := by decide +kernel
theorem dX8_followDay_38 : decode cX8_followDay 38 = .ok (.invokevirtual 118, 3) := by decide +kernel
theorem dX8_followDay_41 : decode cX8_followDay 41 = .ok (.astore 4, 2) := by decide +kernel
theorem dX8_followDay_43 : decode cX8_followDay 43 = .ok (.aload_n 3, 1) := by decide +kernel
theorem dX8_followDay_44 : decode cX8_followDay 44 = .ok (.ifnull 29, 3) := by decide +kernel
theorem dX8_followDay_47 : decode cX8_followDay 47 = .ok (.aload 4, 2) := by decide +kernel
theorem dX8_followDay_49 : decode cX8_followDay 49 = .ok (.ifnull 24, 3) := by decide +kernel
theorem dX8_followDay_52 : decode cX8_followDay 52 = .ok (.aload_n 0, 1) := by decide +kernel
theorem dX8_followDay_53 : decode cX8_followDay 53 = .ok (.getfield 14, 3) := by decide +kernel
theorem dX8_followDay_56 : decode cX8_followDay 56 = .ok (.aload_n 3, 1) := by decide +kernel
theorem dX8_followDay_57 : decode cX8_followDay 57 = .ok (.aload 4, 2) := by decide +kernel
theorem dX8_followDay_59 : decode cX8_followDay 59 = .ok (.aload_n 1, 1) := by decide +kernel
theorem dX8_followDay_60 : decode cX8_followDay 60 = .ok (.getfield 110, 3) := by decide +kernel
theorem dX8_followDay_63 : decode cX8_followDay 63 = .ok (.iload_n 2, 1) := by decide +kernel
theorem dX8_followDay_64 : decode cX8_followDay 64 = .ok (.iconst 2, 1) := by decide +kernel
theorem dX8_followDay_65 : decode cX8_followDay 65 = .ok (.iadd, 1) := by decide +kernel
theorem dX8_followDay_66 : decode cX8_followDay 66 = .ok (.iaload, 1) := by decide +kernel
theorem dX8_followDay_67 : decode cX8_followDay 67 = .ok (.invokevirtual 71, 3) := by decide +kernel
theorem dX8_followDay_70 : decode cX8_followDay 70 = .ok (.ifCond .ne 7, 3) := by decide +kernel
theorem dX8_followDay_73 : decode cX8_followDay 73 = .ok (.iload_n 2, 1) := by decide +kernel
theorem dX8_followDay_74 : decode cX8_followDay 74 = .ok (.iconst 3, 1) := by decide +kernel
theorem dX8_followDay_75 : decode cX8_followDay 75 = .ok (.idiv, 1) := by decide +kernel
theorem dX8_followDay_76 : decode cX8_followDay 76 = .ok (.ireturn, 1) := by decide +kernel
theorem dX8_followDay_77 : decode cX8_followDay 77 = .ok (.iinc 2 3, 3) := by decide +kernel
theorem dX8_followDay_80 : decode cX8_followDay 80 = .ok (.goto (-78), 3) := by decide +kernel
theorem dX8_followDay_83 : decode cX8_followDay 83 = .ok (.iconst (-1), 1) := by decide +kernel
theorem dX8_followDay_84 : decode cX8_followDay 84 = .ok (.ireturn, 1) := by decide +kernel
theorem dX8_takeTurns_0 : decode cX8_takeTurns 0 = .ok (.aload_n 2, 1) := by decide +kernel
theorem dX8_takeTurns_1 : decode cX8_takeTurns 1 = .ok (.iconst 0, 1) := by decide +kernel
theorem dX8_takeTurns_2 : decode cX8_takeTurns 2 = .ok (.iconst 0, 1) := by decide +kernel
theorem dX8_takeTurns_3 : decode cX8_takeTurns 3 = .ok (.invokevirtual 122, 3) := by decide +kernel
theorem dX8_takeTurns_6 : decode cX8_takeTurns 6 = .ok (.aload_n 0, 1) := by decide +kernel
theorem dX8_takeTurns_7 : decode cX8_takeTurns 7 = .ok (.getfield 14, 3) := by decide +kernel
theorem dX8_takeTurns_10 : decode cX8_takeTurns 10 = .ok (.getfield 31, 3) := by decide +kernel
theorem dX8_takeTurns_13 : decode cX8_takeTurns 13 = .ok (.ifCond .ne 5, 3) := by decide +kernel
theorem dX8_takeTurns_16 : decode cX8_takeTurns 16 = .ok (.iconst 0, 1) := by decide +kernel
theorem dX8_takeTurns_17 : decode cX8_takeTurns 17 = .ok (.ireturn, 1) := by decide +kernel
theorem dX8_takeTurns_18 : decode cX8_takeTurns 18 = .ok (.iconst 0, 1) := by decide +kernel
theorem dX8_takeTurns_19 : decode cX8_takeTurns 19 = .ok (.istore_n 3, 1) := by decide +kernel
theorem dX8_takeTurns_20 : decode cX8_takeTurns 20 = .ok (.iconst 0, 1) := by decide +kernel
theorem dX8_takeTurns_21 : decode cX8_takeTurns 21 = .ok (.istore 4, 2) := by decide +kernel
theorem dX8_takeTurns_23 : decode cX8_takeTurns 23 = .ok (.iload 4, 2) := by decide +kernel
theorem dX8_takeTurns_25 : decode cX8_takeTurns 25 = .ok (.iload_n 1, 1) := by decide +kernel
theorem dX8_takeTurns_26 : decode cX8_takeTurns 26 = .ok (.if_icmp .ge 113, 3) := by decide +kernel
theorem dX8_takeTurns_29 : decode cX8_takeTurns 29 = .ok (.iload 4, 2) := by decide +kernel
theorem dX8_takeTurns_31 : decode cX8_takeTurns 31 = .ok (.aload_n 0, 1) := by decide +kernel
theorem dX8_takeTurns_32 : decode cX8_takeTurns 32 = .ok (.getfield 14, 3) := by decide +kernel
theorem dX8_takeTurns_35 : decode cX8_takeTurns 35 = .ok (.getfield 31, 3) := by decide +kernel
theorem dX8_takeTurns_38 : decode cX8_takeTurns 38 = .ok (.irem, 1) := by decide +kernel
theorem dX8_takeTurns_39 : decode cX8_takeTurns 39 = .ok (.istore 5, 2) := by decide +kernel
theorem dX8_takeTurns_41 : decode cX8_takeTurns 41 = .ok (.aload_n 0, 1) := by decide +kernel
theorem dX8_takeTurns_42 : decode cX8_takeTurns 42 = .ok (.getfield 14, 3) := by decide +kernel
theorem dX8_takeTurns_45 : decode cX8_takeTurns 45 = .ok (.aload_n 0, 1) := by decide +kernel
theorem dX8_takeTurns_46 : decode cX8_takeTurns 46 = .ok (.getfield 14, 3) := by decide +kernel
theorem dX8_takeTurns_49 : decode cX8_takeTurns 49 = .ok (.getfield 38, 3) := by decide +kernel
theorem dX8_takeTurns_52 : decode cX8_takeTurns 52 = .ok (.iload 5, 2) := by decide +kernel
theorem dX8_takeTurns_54 : decode cX8_takeTurns 54 = .ok (.aaload, 1) := by decide +kernel
theorem dX8_takeTurns_55 : decode cX8_takeTurns 55 = .ok (.invokevirtual 42, 3) := by decide +kernel
theorem dX8_takeTurns_58 : decode cX8_takeTurns 58 = .ok (.aload_n 0, 1) := by decide +kernel
theorem dX8_takeTurns_59 : decode cX8_takeTurns 59 = .ok (.getfield 14, 3) := by decide +kernel
theorem dX8_takeTurns_62 : decode cX8_takeTurns 62 = .ok (.invokevirtual 46, 3) := by decide +kernel
theorem dX8_takeTurns_65 : decode cX8_takeTurns 65 = .ok (.astore 6, 2) := by decide +kernel
theorem dX8_takeTurns_67 : decode cX8_takeTurns 67 = .ok (.aload 6, 2) := by decide +kernel
theorem dX8_takeTurns_69 : decode cX8_takeTurns 69 = .ok (.ifnull 64, 3) := by decide +kernel
theorem dX8_takeTurns_72 : decode cX8_takeTurns 72 = .ok (.aload_n 2, 1) := by decide +kernel
theorem dX8_takeTurns_73 : decode cX8_takeTurns 73 = .ok (.iload 5, 2) := by decide +kernel
theorem dX8_takeTurns_75 : decode cX8_takeTurns 75 = .ok (.invokevirtual 126, 3) := by decide +kernel
theorem dX8_takeTurns_78 : decode cX8_takeTurns 78 = .ok (.aload_n 2, 1) := by decide +kernel
theorem dX8_takeTurns_79 : decode cX8_takeTurns 79 = .ok (.aload_n 0, 1) := by decide +kernel
theorem dX8_takeTurns_80 : decode cX8_takeTurns 80 = .ok (.getfield 14, 3) := by decide +kernel
theorem dX8_takeTurns_83 : decode cX8_takeTurns 83 = .ok (.getfield 130, 3) := by decide +kernel
theorem dX8_takeTurns_86 : decode cX8_takeTurns 86 = .ok (.bipush 100, 2) := by decide +kernel
theorem dX8_takeTurns_88 : decode cX8_takeTurns 88 = .ok (.idiv, 1) := by decide +kernel
theorem dX8_takeTurns_89 : decode cX8_takeTurns 89 = .ok (.invokevirtual 126, 3) := by decide +kernel
theorem dX8_takeTurns_92 : decode cX8_takeTurns 92 = .ok (.aload_n 2, 1) := by decide +kernel
theorem dX8_takeTurns_93 : decode cX8_takeTurns 93 = .ok (.aload_n 0, 1) := by decide +kernel
theorem dX8_takeTurns_94 : decode cX8_takeTurns 94 = .ok (.getfield 14, 3) := by decide +kernel
theorem dX8_takeTurns_97 : decode cX8_takeTurns 97 = .ok (.invokevirtual 67, 3) := by decide +kernel
theorem dX8_takeTurns_100 : decode cX8_takeTurns 100 = .ok (.invokevirtual 126, 3) := by decide +kernel
theorem dX8_takeTurns_103 : decode cX8_takeTurns 103 = .ok (.aload_n 0, 1) := by decide +kernel
theorem dX8_takeTurns_104 : decode cX8_takeTurns 104 = .ok (.getfield 14, 3) := by decide +kernel
theorem dX8_takeTurns_107 : decode cX8_takeTurns 107 = .ok (.aload_n 0, 1) := by decide +kernel
theorem dX8_takeTurns_108 : decode cX8_takeTurns 108 = .ok (.getfield 14, 3) := by decide +kernel
theorem dX8_takeTurns_111 : decode cX8_takeTurns 111 = .ok (.getfield 38, 3) := by decide +kernel
theorem dX8_takeTurns_114 : decode cX8_takeTurns 114 = .ok (.iload 5, 2) := by decide +kernel
theorem dX8_takeTurns_116 : decode cX8_takeTurns 116 = .ok (.aaload, 1) := by decide +kernel
theorem dX8_takeTurns_117 : decode cX8_takeTurns 117 = .ok (.aload 6, 2) := by decide +kernel
theorem dX8_takeTurns_119 : decode cX8_takeTurns 119 = .ok (.aload_n 0, 1) := by decide +kernel
theorem dX8_takeTurns_120 : decode cX8_takeTurns 120 = .ok (.getfield 14, 3) := by decide +kernel
theorem dX8_takeTurns_123 : decode cX8_takeTurns 123 = .ok (.invokevirtual 67, 3) := by decide +kernel
theorem dX8_takeTurns_126 : decode cX8_takeTurns 126 = .ok (.invokevirtual 71, 3) := by decide +kernel
theorem dX8_takeTurns_129 : decode cX8_takeTurns 129 = .ok (.pop, 1) := by decide +kernel
theorem dX8_takeTurns_130 : decode cX8_takeTurns 130 = .ok (.iinc 3 1, 3) := by decide +kernel
theorem dX8_takeTurns_133 : decode cX8_takeTurns 133 = .ok (.iinc 4 1, 3) := by decide +kernel
theorem dX8_takeTurns_136 : decode cX8_takeTurns 136 = .ok (.goto (-113), 3) := by decide +kernel
theorem dX8_takeTurns_139 : decode cX8_takeTurns 139 = .ok (.iload_n 3, 1) := by decide +kernel
theorem dX8_takeTurns_140 : decode cX8_takeTurns 140 = .ok (.ireturn, 1) := by decide +kernel
theorem dX8_drawDay_0 : decode cX8_drawDay 0 = .ok (.aload_n 0, 1) := by decide +kernel
theorem dX8_drawDay_1 : decode cX8_drawDay 1 = .ok (.getfield 14, 3) := by decide +kernel
theorem dX8_drawDay_4 : decode cX8_drawDay 4 = .ok (.getfield 31, 3) := by decide +kernel
theorem dX8_drawDay_7 : decode cX8_drawDay 7 = .ok (.ifCond .eq 13, 3) := by decide +kernel
theorem dX8_drawDay_10 : decode cX8_drawDay 10 = .ok (.aload_n 0, 1) := by decide +kernel
theorem dX8_drawDay_11 : decode cX8_drawDay 11 = .ok (.getfield 14, 3) := by decide +kernel
theorem dX8_drawDay_14 : decode cX8_drawDay 14 = .ok (.getfield 83, 3) := by decide +kernel
theorem dX8_drawDay_17 : decode cX8_drawDay 17 = .ok (.ifCond .ne 4, 3) := by decide +kernel
theorem dX8_drawDay_20 : decode cX8_drawDay 20 = .ok (.return_, 1) := by decide +kernel
theorem dX8_drawDay_21 : decode cX8_drawDay 21 = .ok (.iload_n 1, 1) := by decide +kernel
theorem dX8_drawDay_22 : decode cX8_drawDay 22 = .ok (.iconst 1, 1) := by decide +kernel
theorem dX8_drawDay_23 : decode cX8_drawDay 23 = .ok (.iadd, 1) := by decide +kernel
theorem dX8_drawDay_24 : decode cX8_drawDay 24 = .ok (.i2l, 1) := by decide +kernel
theorem dX8_drawDay_25 : decode cX8_drawDay 25 = .ok (.lstore_n 3, 1) := by decide +kernel
theorem dX8_drawDay_26 : decode cX8_drawDay 26 = .ok (.iconst 0, 1) := by decide +kernel
theorem dX8_drawDay_27 : decode cX8_drawDay 27 = .ok (.istore 5, 2) := by decide +kernel
theorem dX8_drawDay_29 : decode cX8_drawDay 29 = .ok (.iload 5, 2) := by decide +kernel
theorem dX8_drawDay_31 : decode cX8_drawDay 31 = .ok (.iload_n 2, 1) := by decide +kernel
theorem dX8_drawDay_32 : decode cX8_drawDay 32 = .ok (.if_icmp .ge 87, 3) := by decide +kernel
theorem dX8_drawDay_35 : decode cX8_drawDay 35 = .ok (.lload_n 3, 1) := by decide +kernel
theorem dX8_drawDay_36 : decode cX8_drawDay 36 = .ok (.ldc2_w 133, 3) := by decide +kernel
theorem dX8_drawDay_39 : decode cX8_drawDay 39 = .ok (.lmul, 1) := by decide +kernel
theorem dX8_drawDay_40 : decode cX8_drawDay 40 = .ok (.ldc2_w 135, 3) := by decide +kernel
theorem dX8_drawDay_43 : decode cX8_drawDay 43 = .ok (.lrem, 1) := by decide +kernel
theorem dX8_drawDay_44 : decode cX8_drawDay 44 = .ok (.lstore_n 3, 1) := by decide +kernel
theorem dX8_drawDay_45 : decode cX8_drawDay 45 = .ok (.aload_n 0, 1) := by decide +kernel
theorem dX8_drawDay_46 : decode cX8_drawDay 46 = .ok (.getfield 14, 3) := by decide +kernel
theorem dX8_drawDay_49 : decode cX8_drawDay 49 = .ok (.getfield 38, 3) := by decide +kernel
theorem dX8_drawDay_52 : decode cX8_drawDay 52 = .ok (.lload_n 3, 1) := by decide +kernel
theorem dX8_drawDay_53 : decode cX8_drawDay 53 = .ok (.aload_n 0, 1) := by decide +kernel
theorem dX8_drawDay_54 : decode cX8_drawDay 54 = .ok (.getfield 14, 3) := by decide +kernel
theorem dX8_drawDay_57 : decode cX8_drawDay 57 = .ok (.getfield 31, 3) := by decide +kernel
theorem dX8_drawDay_60 : decode cX8_drawDay 60 = .ok (.i2l, 1) := by decide +kernel
theorem dX8_drawDay_61 : decode cX8_drawDay 61 = .ok (.lrem, 1) := by decide +kernel
theorem dX8_drawDay_62 : decode cX8_drawDay 62 = .ok (.l2i, 1) := by decide +kernel
theorem dX8_drawDay_63 : decode cX8_drawDay 63 = .ok (.aaload, 1) := by decide +kernel
theorem dX8_drawDay_64 : decode cX8_drawDay 64 = .ok (.astore 6, 2) := by decide +kernel
theorem dX8_drawDay_66 : decode cX8_drawDay 66 = .ok (.aload_n 0, 1) := by decide +kernel
theorem dX8_drawDay_67 : decode cX8_drawDay 67 = .ok (.getfield 14, 3) := by decide +kernel
theorem dX8_drawDay_70 : decode cX8_drawDay 70 = .ok (.getfield 101, 3) := by decide +kernel
theorem dX8_drawDay_73 : decode cX8_drawDay 73 = .ok (.lload_n 3, 1) := by decide +kernel
theorem dX8_drawDay_74 : decode cX8_drawDay 74 = .ok (.ldc2_w 137, 3) := by decide +kernel
theorem dX8_drawDay_77 : decode cX8_drawDay 77 = .ok (.ldiv, 1) := by decide +kernel
theorem dX8_drawDay_78 : decode cX8_drawDay 78 = .ok (.aload_n 0, 1) := by decide +kernel
theorem dX8_drawDay_79 : decode cX8_drawDay 79 = .ok (.getfield 14, 3) := by decide +kernel
theorem dX8_drawDay_82 : decode cX8_drawDay 82 = .ok (.getfield 83, 3) := by decide +kernel
theorem dX8_drawDay_85 : decode cX8_drawDay 85 = .ok (.i2l, 1) := by decide +kernel
theorem dX8_drawDay_86 : decode cX8_drawDay 86 = .ok (.lrem, 1) := by decide +kernel
theorem dX8_drawDay_87 : decode cX8_drawDay 87 = .ok (.l2i, 1) := by decide +kernel
theorem dX8_drawDay_88 : decode cX8_drawDay 88 = .ok (.aaload, 1) := by decide +kernel
theorem dX8_drawDay_89 : decode cX8_drawDay 89 = .ok (.astore 7, 2) := by decide +kernel
theorem dX8_drawDay_91 : decode cX8_drawDay 91 = .ok (.aload_n 0, 1) := by decide +kernel
theorem dX8_drawDay_92 : decode cX8_drawDay 92 = .ok (.getfield 14, 3) := by decide +kernel
theorem dX8_drawDay_95 : decode cX8_drawDay 95 = .ok (.aload 6, 2) := by decide +kernel
theorem dX8_drawDay_97 : decode cX8_drawDay 97 = .ok (.aload 7, 2) := by decide +kernel
theorem dX8_drawDay_99 : decode cX8_drawDay 99 = .ok (.lload_n 3, 1) := by decide +kernel
theorem dX8_drawDay_100 : decode cX8_drawDay 100 = .ok (.ldc2_w 139, 3) := by decide +kernel
theorem dX8_drawDay_103 : decode cX8_drawDay 103 = .ok (.ldiv, 1) := by decide +kernel
theorem dX8_drawDay_104 : decode cX8_drawDay 104 = .ok (.ldc2_w 141, 3) := by decide +kernel
theorem dX8_drawDay_107 : decode cX8_drawDay 107 = .ok (.lrem, 1) := by decide +kernel
theorem dX8_drawDay_108 : decode cX8_drawDay 108 = .ok (.l2i, 1) := by decide +kernel
theorem dX8_drawDay_109 : decode cX8_drawDay 109 = .ok (.invokevirtual 71, 3) := by decide +kernel
theorem dX8_drawDay_112 : decode cX8_drawDay 112 = .ok (.pop, 1) := by decide +kernel
theorem dX8_drawDay_113 : decode cX8_drawDay 113 = .ok (.iinc 5 1, 3) := by decide +kernel
theorem dX8_drawDay_116 : decode cX8_drawDay 116 = .ok (.goto (-87), 3) := by decide +kernel
theorem dX8_drawDay_119 : decode cX8_drawDay 119 = .ok (.return_, 1) := by decide +kernel
theorem dX9_isSign_0 : decode cX9_isSign 0 = .ok (.iload_n 0, 1) := by decide +kernel
theorem dX9_isSign_1 : decode cX9_isSign 1 = .ok (.bipush 40, 2) := by decide +kernel
theorem dX9_isSign_3 : decode cX9_isSign 3 = .ok (.if_icmp .eq 23, 3) := by decide +kernel
theorem dX9_isSign_6 : decode cX9_isSign 6 = .ok (.iload_n 0, 1) := by decide +kernel
theorem dX9_isSign_7 : decode cX9_isSign 7 = .ok (.bipush 41, 2) := by decide +kernel
theorem dX9_isSign_9 : decode cX9_isSign 9 = .ok (.if_icmp .eq 17, 3) := by decide +kernel
theorem dX9_isSign_12 : decode cX9_isSign 12 = .ok (.iload_n 0, 1) := by decide +kernel
theorem dX9_isSign_13 : decode cX9_isSign 13 = .ok (.bipush 59, 2) := by decide +kernel
theorem dX9_isSign_15 : decode cX9_isSign 15 = .ok (.if_icmp .eq 11, 3) := by decide +kernel
theorem dX9_isSign_18 : decode cX9_isSign 18 = .ok (.iload_n 0, 1) := by decide +kernel
theorem dX9_isSign_19 : decode cX9_isSign 19 = .ok (.invokestatic 9, 3) := by decide +kernel
theorem dX9_isSign_22 : decode cX9_isSign 22 = .ok (.iconst 2, 1) := by decide +kernel
theorem dX9_isSign_23 : decode cX9_isSign 23 = .ok (.if_icmp .lt 7, 3) := by decide +kernel
theorem dX9_isSign_26 : decode cX9_isSign 26 = .ok (.iconst 1, 1) := by decide +kernel
theorem dX9_isSign_27 : decode cX9_isSign 27 = .ok (.goto 4, 3) := by decide +kernel
theorem dX9_isSign_30 : decode cX9_isSign 30 = .ok (.iconst 0, 1) := by decide +kernel
theorem dX9_isSign_31 : decode cX9_isSign 31 = .ok (.ireturn, 1) := by decide +kernel
theorem dX9_rankOf_0 : decode cX9_rankOf 0 = .ok (.iload_n 0, 1) := by decide +kernel
theorem dX9_rankOf_1 : decode cX9_rankOf 1 = .ok (.lookupswitch 77 #[(11, 67), (12, 69), (42, 75), (43, 73), (45, 73), (60, 71), (61, 71)], 67) := by decide +kernel
theorem dX9_rankOf_68 : decode cX9_rankOf 68 = .ok (.iconst 0, 1) := by decide +kernel
theorem dX9_rankOf_69 : decode cX9_rankOf 69 = .ok (.ireturn, 1) := by decide +kernel
theorem dX9_rankOf_70 : decode cX9_rankOf 70 = .ok (.iconst 1, 1) := by decide +kernel
theorem dX9_rankOf_71 : decode cX9_rankOf 71 = .ok (.ireturn, 1) := by decide +kernel
theorem dX9_rankOf_72 : decode cX9_rankOf 72 = .ok (.iconst 2, 1) := by decide +kernel
theorem dX9_rankOf_73 : decode cX9_rankOf 73 = .ok (.ireturn, 1) := by decide +kernel
theorem dX9_rankOf_74 : decode cX9_rankOf 74 = .ok (.iconst 3, 1) := by decide +kernel
theorem dX9_rankOf_75 : decode cX9_rankOf 75 = .ok (.ireturn, 1) := by decide +kernel
theorem dX9_rankOf_76 : decode cX9_rankOf 76 = .ok (.iconst 4, 1) := by decide +kernel
theorem dX9_rankOf_77 : decode cX9_rankOf 77 = .ok (.ireturn, 1) := by decide +kernel
theorem dX9_rankOf_78 : decode cX9_rankOf 78 = .ok (.iconst (-1), 1) := by decide +kernel
theorem dX9_rankOf_79 : decode cX9_rankOf 79 = .ok (.ireturn, 1) := by decide +kernel
