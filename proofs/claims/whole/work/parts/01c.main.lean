theorem dX10_init_0 : decode cX10_init 0 = .ok (.aload_n 0, 1) := by decide +kernel
theorem dX10_init_1 : decode cX10_init 1 = .ok (.invokespecial 1, 3) := by decide +kernel
theorem dX10_init_4 : decode cX10_init 4 = .ok (.aload_n 0, 1) := by decide +kernel
theorem dX10_init_5 : decode cX10_init 5 = .ok (.new 7, 3) := by decide +kernel
theorem dX10_init_8 : decode cX10_init 8 = .ok (.dup, 1) := by decide +kernel
theorem dX10_init_9 : decode cX10_init 9 = .ok (.invokespecial 9, 3) := by decide +kernel
theorem dX10_init_12 : decode cX10_init 12 = .ok (.putfield 10, 3) := by decide +kernel
theorem dX10_init_15 : decode cX10_init 15 = .ok (.aload_n 0, 1) := by decide +kernel
theorem dX10_init_16 : decode cX10_init 16 = .ok (.bipush 6, 2) := by decide +kernel
theorem dX10_init_18 : decode cX10_init 18 = .ok (.anewarray 16, 3) := by decide +kernel
theorem dX10_init_21 : decode cX10_init 21 = .ok (.putfield 18, 3) := by decide +kernel
theorem dX10_init_24 : decode cX10_init 24 = .ok (.aload_n 0, 1) := by decide +kernel
theorem dX10_init_25 : decode cX10_init 25 = .ok (.new 22, 3) := by decide +kernel
theorem dX10_init_28 : decode cX10_init 28 = .ok (.dup, 1) := by decide +kernel
theorem dX10_init_29 : decode cX10_init 29 = .ok (.invokespecial 24, 3) := by decide +kernel
theorem dX10_init_32 : decode cX10_init 32 = .ok (.putfield 25, 3) := by decide +kernel
theorem dX10_init_35 : decode cX10_init 35 = .ok (.aload_n 0, 1) := by decide +kernel
theorem dX10_init_36 : decode cX10_init 36 = .ok (.new 29, 3) := by decide +kernel
theorem dX10_init_39 : decode cX10_init 39 = .ok (.dup, 1) := by decide +kernel
theorem dX10_init_40 : decode cX10_init 40 = .ok (.invokespecial 31, 3) := by decide +kernel
theorem dX10_init_43 : decode cX10_init 43 = .ok (.putfield 32, 3) := by decide +kernel
theorem dX10_init_46 : decode cX10_init 46 = .ok (.aload_n 0, 1) := by decide +kernel
theorem dX10_init_47 : decode cX10_init 47 = .ok (.iconst 4, 1) := by decide +kernel
theorem dX10_init_48 : decode cX10_init 48 = .ok (.anewarray 36, 3) := by decide +kernel
theorem dX10_init_51 : decode cX10_init 51 = .ok (.putfield 38, 3) := by decide +kernel
theorem dX10_init_54 : decode cX10_init 54 = .ok (.aload_n 0, 1) := by decide +kernel
theorem dX10_init_55 : decode cX10_init 55 = .ok (.getfield 10, 3) := by decide +kernel
theorem dX10_init_58 : decode cX10_init 58 = .ok (.ldc 42, 2) := by decide +kernel
theorem dX10_init_60 : decode cX10_init 60 = .ok (.invokevirtual 44, 3) := by decide +kernel
theorem dX10_init_63 : decode cX10_init 63 = .ok (.aload_n 0, 1) := by decide +kernel
theorem dX10_init_64 : decode cX10_init 64 = .ok (.getfield 10, 3) := by decide +kernel
theorem dX10_init_67 : decode cX10_init 67 = .ok (.invokevirtual 48, 3) := by decide +kernel
theorem dX10_init_70 : decode cX10_init 70 = .ok (.pop, 1) := by decide +kernel
theorem dX10_init_71 : decode cX10_init 71 = .ok (.aload_n 0, 1) := by decide +kernel
theorem dX10_init_72 : decode cX10_init 72 = .ok (.getfield 10, 3) := by decide +kernel
theorem dX10_init_75 : decode cX10_init 75 = .ok (.iconst 0, 1) := by decide +kernel
theorem dX10_init_76 : decode cX10_init 76 = .ok (.invokevirtual 52, 3) := by decide +kernel
theorem dX10_init_79 : decode cX10_init 79 = .ok (.astore_n 1, 1) := by decide +kernel
theorem dX10_init_80 : decode cX10_init 80 = .ok (.aload_n 0, 1) := by decide +kernel
theorem dX10_init_81 : decode cX10_init 81 = .ok (.getfield 10, 3) := by decide +kernel
theorem dX10_init_84 : decode cX10_init 84 = .ok (.invokevirtual 56, 3) := by decide +kernel
theorem dX10_init_87 : decode cX10_init 87 = .ok (.aload_n 0, 1) := by decide +kernel
theorem dX10_init_88 : decode cX10_init 88 = .ok (.getfield 18, 3) := by decide +kernel
theorem dX10_init_91 : decode cX10_init 91 = .ok (.iconst 0, 1) := by decide +kernel
theorem dX10_init_92 : decode cX10_init 92 = .ok (.aload_n 1, 1) := by decide +kernel
theorem dX10_init_93 : decode cX10_init 93 = .ok (.aastore, 1) := by decide +kernel
theorem dX10_init_94 : decode cX10_init 94 = .ok (.aload_n 0, 1) := by decide +kernel
theorem dX10_init_95 : decode cX10_init 95 = .ok (.iconst 1, 1) := by decide +kernel
theorem dX10_init_96 : decode cX10_init 96 = .ok (.putfield 59, 3) := by decide +kernel
theorem dX10_init_99 : decode cX10_init 99 = .ok (.aload_n 0, 1) := by decide +kernel
theorem dX10_init_100 : decode cX10_init 100 = .ok (.new 63, 3) := by decide +kernel
theorem dX10_init_103 : decode cX10_init 103 = .ok (.dup, 1) := by decide +kernel
theorem dX10_init_104 : decode cX10_init 104 = .ok (.aload_n 1, 1) := by decide +kernel
theorem dX10_init_105 : decode cX10_init 105 = .ok (.invokespecial 65, 3) := by decide +kernel
theorem dX10_init_108 : decode cX10_init 108 = .ok (.putfield 68, 3) := by decide +kernel
theorem dX10_init_111 : decode cX10_init 111 = .ok (.aload_n 0, 1) := by decide +kernel
theorem dX10_init_112 : decode cX10_init 112 = .ok (.new 63, 3) := by decide +kernel
theorem dX10_init_115 : decode cX10_init 115 = .ok (.dup, 1) := by decide +kernel
theorem dX10_init_116 : decode cX10_init 116 = .ok (.aload_n 1, 1) := by decide +kernel
theorem dX10_init_117 : decode cX10_init 117 = .ok (.invokespecial 65, 3) := by decide +kernel
theorem dX10_init_120 : decode cX10_init 120 = .ok (.putfield 72, 3) := by decide +kernel
theorem dX10_init_123 : decode cX10_init 123 = .ok (.aload_n 0, 1) := by decide +kernel
theorem dX10_init_124 : decode cX10_init 124 = .ok (.new 75, 3) := by decide +kernel
theorem dX10_init_127 : decode cX10_init 127 = .ok (.dup, 1) := by decide +kernel
theorem dX10_init_128 : decode cX10_init 128 = .ok (.aload_n 1, 1) := by decide +kernel
theorem dX10_init_129 : decode cX10_init 129 = .ok (.invokespecial 77, 3) := by decide +kernel
theorem dX10_init_132 : decode cX10_init 132 = .ok (.putfield 78, 3) := by decide +kernel
theorem dX10_init_135 : decode cX10_init 135 = .ok (.iconst 0, 1) := by decide +kernel
theorem dX10_init_136 : decode cX10_init 136 = .ok (.istore_n 2, 1) := by decide +kernel
theorem dX10_init_137 : decode cX10_init 137 = .ok (.iload_n 2, 1) := by decide +kernel
theorem dX10_init_138 : decode cX10_init 138 = .ok (.iconst 4, 1) := by decide +kernel
theorem dX10_init_139 : decode cX10_init 139 = .ok (.if_icmp .ge 22, 3) := by decide +kernel
theorem dX10_init_142 : decode cX10_init 142 = .ok (.aload_n 0, 1) := by decide +kernel
theorem dX10_init_143 : decode cX10_init 143 = .ok (.getfield 38, 3) := by decide +kernel
theorem dX10_init_146 : decode cX10_init 146 = .ok (.iload_n 2, 1) := by decide +kernel
theorem dX10_init_147 : decode cX10_init 147 = .ok (.new 36, 3) := by decide +kernel
theorem dX10_init_150 : decode cX10_init 150 = .ok (.dup, 1) := by decide +kernel
theorem dX10_init_151 : decode cX10_init 151 = .ok (.invokespecial 82, 3) := by decide +kernel
theorem dX10_init_154 : decode cX10_init 154 = .ok (.aastore, 1) := by decide +kernel
theorem dX10_init_155 : decode cX10_init 155 = .ok (.iinc 2 1, 3) := by decide +kernel
theorem dX10_init_158 : decode cX10_init 158 = .ok (.goto (-21), 3) := by decide +kernel
theorem dX10_init_161 : decode cX10_init 161 = .ok (.return_, 1) := by decide +kernel
theorem dX10_count_0 : decode cX10_count 0 = .ok (.iload_n 1, 1) := by decide +kernel
theorem dX10_count_1 : decode cX10_count 1 = .ok (.tableswitch 87 0 5 #[39, 47, 55, 63, 68, 79], 39) := by decide +kernel
theorem dX10_count_40 : decode cX10_count 40 = .ok (.aload_n 0, 1) := by decide +kernel
theorem dX10_count_41 : decode cX10_count 41 = .ok (.getfield 68, 3) := by decide +kernel
theorem dX10_count_44 : decode cX10_count 44 = .ok (.getfield 83, 3) := by decide +kernel
theorem dX10_count_47 : decode cX10_count 47 = .ok (.ireturn, 1) := by decide +kernel
theorem dX10_count_48 : decode cX10_count 48 = .ok (.aload_n 0, 1) := by decide +kernel
theorem dX10_count_49 : decode cX10_count 49 = .ok (.getfield 68, 3) := by decide +kernel
theorem dX10_count_52 : decode cX10_count 52 = .ok (.getfield 86, 3) := by decide +kernel
theorem dX10_count_55 : decode cX10_count 55 = .ok (.ireturn, 1) := by decide +kernel
theorem dX10_count_56 : decode cX10_count 56 = .ok (.aload_n 0, 1) := by decide +kernel
theorem dX10_count_57 : decode cX10_count 57 = .ok (.getfield 68, 3) := by decide +kernel
theorem dX10_count_60 : decode cX10_count 60 = .ok (.getfield 89, 3) := by decide +kernel
theorem dX10_count_63 : decode cX10_count 63 = .ok (.ireturn, 1) := by decide +kernel
theorem dX10_count_64 : decode cX10_count 64 = .ok (.aload_n 0, 1) := by decide +kernel
theorem dX10_count_65 : decode cX10_count 65 = .ok (.getfield 59, 3) := by decide +kernel
theorem dX10_count_68 : decode cX10_count 68 = .ok (.ireturn, 1) := by decide +kernel
theorem dX10_count_69 : decode cX10_count 69 = .ok (.aload_n 0, 1) := by decide +kernel
theorem dX10_count_70 : decode cX10_count 70 = .ok (.getfield 68, 3) := by decide +kernel
theorem dX10_count_73 : decode cX10_count 73 = .ok (.getfield 92, 3) := by decide +kernel
theorem dX10_count_76 : decode cX10_count 76 = .ok (.getfield 96, 3) := by decide +kernel
theorem dX10_count_79 : decode cX10_count 79 = .ok (.ireturn, 1) := by decide +kernel
theorem dX10_count_80 : decode cX10_count 80 = .ok (.aload_n 0, 1) := by decide +kernel
theorem dX10_count_81 : decode cX10_count 81 = .ok (.getfield 10, 3) := by decide +kernel
theorem dX10_count_84 : decode cX10_count 84 = .ok (.invokevirtual 99, 3) := by decide +kernel
theorem dX10_count_87 : decode cX10_count 87 = .ok (.ireturn, 1) := by decide +kernel
theorem dX10_count_88 : decode cX10_count 88 = .ok (.bipush (-2), 2) := by decide +kernel
theorem dX10_count_90 : decode cX10_count 90 = .ok (.ireturn, 1) := by decide +kernel
theorem dX10_set_0 : decode cX10_set 0 = .ok (.iload_n 1, 1) := by decide +kernel
theorem dX10_set_1 : decode cX10_set 1 = .ok (.iconst 0, 1) := by decide +kernel
theorem dX10_set_2 : decode cX10_set 2 = .ok (.bipush 99, 2) := by decide +kernel
theorem dX10_set_4 : decode cX10_set 4 = .ok (.invokestatic 102, 3) := by decide +kernel
theorem dX10_set_7 : decode cX10_set 7 = .ok (.ifCond .ne 6, 3) := by decide +kernel
theorem dX10_set_10 : decode cX10_set 10 = .ok (.bipush (-7), 2) := by decide +kernel
theorem dX10_set_12 : decode cX10_set 12 = .ok (.ireturn, 1) := by decide +kernel
theorem dX10_set_13 : decode cX10_set 13 = .ok (.aload_n 0, 1) := by decide +kernel
theorem dX10_set_14 : decode cX10_set 14 = .ok (.getfield 68, 3) := by decide +kernel
theorem dX10_set_17 : decode cX10_set 17 = .ok (.getfield 89, 3) := by decide +kernel
theorem dX10_set_20 : decode cX10_set 20 = .ok (.istore_n 2, 1) := by decide +kernel
theorem dX10_set_21 : decode cX10_set 21 = .ok (.aload_n 0, 1) := by decide +kernel
theorem dX10_set_22 : decode cX10_set 22 = .ok (.getfield 68, 3) := by decide +kernel
theorem dX10_set_25 : decode cX10_set 25 = .ok (.iload_n 1, 1) := by decide +kernel
theorem dX10_set_26 : decode cX10_set 26 = .ok (.putfield 89, 3) := by decide +kernel
theorem dX10_set_29 : decode cX10_set 29 = .ok (.iload_n 2, 1) := by decide +kernel
theorem dX10_set_30 : decode cX10_set 30 = .ok (.ireturn, 1) := by decide +kernel
theorem dX10_feed_0 : decode cX10_feed 0 = .ok (.iload_n 1, 1) := by decide +kernel
theorem dX10_feed_1 : decode cX10_feed 1 = .ok (.iconst 1, 1) := by decide +kernel
theorem dX10_feed_2 : decode cX10_feed 2 = .ok (.iconst 5, 1) := by decide +kernel
theorem dX10_feed_3 : decode cX10_feed 3 = .ok (.invokestatic 102, 3) := by decide +kernel
theorem dX10_feed_6 : decode cX10_feed 6 = .ok (.ifCond .eq 41, 3) := by decide +kernel
theorem dX10_feed_9 : decode cX10_feed 9 = .ok (.iload_n 2, 1) := by decide +kernel
theorem dX10_feed_10 : decode cX10_feed 10 = .ok (.invokestatic 106, 3) := by decide +kernel
theorem dX10_feed_13 : decode cX10_feed 13 = .ok (.ifCond .eq 34, 3) := by decide +kernel
theorem dX10_feed_16 : decode cX10_feed 16 = .ok (.iload_n 3, 1) := by decide +kernel
theorem dX10_feed_17 : decode cX10_feed 17 = .ok (.invokestatic 106, 3) := by decide +kernel
theorem dX10_feed_20 : decode cX10_feed 20 = .ok (.ifCond .eq 27, 3) := by decide +kernel
theorem dX10_feed_23 : decode cX10_feed 23 = .ok (.iload 4, 2) := by decide +kernel
theorem dX10_feed_25 : decode cX10_feed 25 = .ok (.invokestatic 106, 3) := by decide +kernel
theorem dX10_feed_28 : decode cX10_feed 28 = .ok (.ifCond .eq 19, 3) := by decide +kernel
theorem dX10_feed_31 : decode cX10_feed 31 = .ok (.iload 5, 2) := by decide +kernel
theorem dX10_feed_33 : decode cX10_feed 33 = .ok (.invokestatic 106, 3) := by decide +kernel
theorem dX10_feed_36 : decode cX10_feed 36 = .ok (.ifCond .eq 11, 3) := by decide +kernel
theorem dX10_feed_39 : decode cX10_feed 39 = .ok (.iload 6, 2) := by decide +kernel
theorem dX10_feed_41 : decode cX10_feed 41 = .ok (.invokestatic 106, 3) := by decide +kernel
theorem dX10_feed_44 : decode cX10_feed 44 = .ok (.ifCond .ne 6, 3) := by decide +kernel
theorem dX10_feed_47 : decode cX10_feed 47 = .ok (.bipush (-2), 2) := by decide +kernel
theorem dX10_feed_49 : decode cX10_feed 49 = .ok (.ireturn, 1) := by decide +kernel
theorem dX10_feed_50 : decode cX10_feed 50 = .ok (.iload_n 1, 1) := by decide +kernel
theorem dX10_feed_51 : decode cX10_feed 51 = .ok (.aload_n 0, 1) := by decide +kernel
theorem dX10_feed_52 : decode cX10_feed 52 = .ok (.getfield 10, 3) := by decide +kernel
theorem dX10_feed_55 : decode cX10_feed 55 = .ok (.invokevirtual 110, 3) := by decide +kernel
theorem dX10_feed_58 : decode cX10_feed 58 = .ok (.if_icmp .le 6, 3) := by decide +kernel
theorem dX10_feed_61 : decode cX10_feed 61 = .ok (.bipush (-4), 2) := by decide +kernel
theorem dX10_feed_63 : decode cX10_feed 63 = .ok (.ireturn, 1) := by decide +kernel
theorem dX10_feed_64 : decode cX10_feed 64 = .ok (.aload_n 0, 1) := by decide +kernel
theorem dX10_feed_65 : decode cX10_feed 65 = .ok (.getfield 10, 3) := by decide +kernel
theorem dX10_feed_68 : decode cX10_feed 68 = .ok (.iload_n 2, 1) := by decide +kernel
theorem dX10_feed_69 : decode cX10_feed 69 = .ok (.invokevirtual 113, 3) := by decide +kernel
theorem dX10_feed_72 : decode cX10_feed 72 = .ok (.iload_n 1, 1) := by decide +kernel
theorem dX10_feed_73 : decode cX10_feed 73 = .ok (.iconst 1, 1) := by decide +kernel
theorem dX10_feed_74 : decode cX10_feed 74 = .ok (.if_icmp .le 11, 3) := by decide +kernel
theorem dX10_feed_77 : decode cX10_feed 77 = .ok (.aload_n 0, 1) := by decide +kernel
theorem dX10_feed_78 : decode cX10_feed 78 = .ok (.getfield 10, 3) := by decide +kernel
theorem dX10_feed_81 : decode cX10_feed 81 = .ok (.iload_n 3, 1) := by decide +kernel
theorem dX10_feed_82 : decode cX10_feed 82 = .ok (.invokevirtual 113, 3) := by decide +kernel
theorem dX10_feed_85 : decode cX10_feed 85 = .ok (.iload_n 1, 1) := by decide +kernel
theorem dX10_feed_86 : decode cX10_feed 86 = .ok (.iconst 2, 1) := by decide +kernel
theorem dX10_feed_87 : decode cX10_feed 87 = .ok (.if_icmp .le 12, 3) := by decide +kernel
theorem dX10_feed_90 : decode cX10_feed 90 = .ok (.aload_n 0, 1) := by decide +kernel
theorem dX10_feed_91 : decode cX10_feed 91 = .ok (.getfield 10, 3) := by decide +kernel
theorem dX10_feed_94 : decode cX10_feed 94 = .ok (.iload 4, 2) := by decide +kernel
theorem dX10_feed_96 : decode cX10_feed 96 = .ok (.invokevirtual 113, 3) := by decide +kernel
theorem dX10_feed_99 : decode cX10_feed 99 = .ok (.iload_n 1, 1) := by decide +kernel
theorem dX10_feed_100 : decode cX10_feed 100 = .ok (.iconst 3, 1) := by decide +kernel
theorem dX10_feed_101 : decode cX10_feed 101 = .ok (.if_icmp .le 12, 3) := by decide +kernel
theorem dX10_feed_104 : decode cX10_feed 104 = .ok (.aload_n 0, 1) := by decide +kernel
theorem dX10_feed_105 : decode cX10_feed 105 = .ok (.getfield 10, 3) := by decide +kernel
theorem dX10_feed_108 : decode cX10_feed 108 = .ok (.iload 5, 2) := by decide +kernel
theorem dX10_feed_110 : decode cX10_feed 110 = .ok (.invokevirtual 113, 3) := by decide +kernel
theorem dX10_feed_113 : decode cX10_feed 113 = .ok (.iload_n 1, 1) := by decide +kernel
theorem dX10_feed_114 : decode cX10_feed 114 = .ok (.iconst 4, 1) := by decide +kernel
theorem dX10_feed_115 : decode cX10_feed 115 = .ok (.if_icmp .le 12, 3) := by decide +kernel
theorem dX10_feed_118 : decode cX10_feed 118 = .ok (.aload_n 0, 1) := by decide +kernel
theorem dX10_feed_119 : decode cX10_feed 119 = .ok (.getfield 10, 3) := by decide +kernel
theorem dX10_feed_122 : decode cX10_feed 122 = .ok (.iload 6, 2) := by decide +kernel
theorem dX10_feed_124 : decode cX10_feed 124 = .ok (.invokevirtual 113, 3) := by decide +kernel
theorem dX10_feed_127 : decode cX10_feed 127 = .ok (.aload_n 0, 1) := by decide +kernel
theorem dX10_feed_128 : decode cX10_feed 128 = .ok (.getfield 10, 3) := by decide +kernel
theorem dX10_feed_131 : decode cX10_feed 131 = .ok (.invokevirtual 99, 3) := by decide +kernel
theorem dX10_feed_134 : decode cX10_feed 134 = .ok (.ireturn, 1) := by decide +kernel
theorem dX10_text_0 : decode cX10_text 0 = .ok (.aload_n 0, 1) := by decide +kernel
theorem dX10_text_1 : decode cX10_text 1 = .ok (.getfield 59, 3) := by decide +kernel
theorem dX10_text_4 : decode cX10_text 4 = .ok (.bipush 6, 2) := by decide +kernel
theorem dX10_text_6 : decode cX10_text 6 = .ok (.if_icmp .lt 6, 3) := by decide +kernel
theorem dX10_text_9 : decode cX10_text 9 = .ok (.bipush (-4), 2) := by decide +kernel
theorem dX10_text_11 : decode cX10_text 11 = .ok (.ireturn, 1) := by decide +kernel
theorem dX10_text_12 : decode cX10_text 12 = .ok (.aload_n 0, 1) := by decide +kernel
theorem dX10_text_13 : decode cX10_text 13 = .ok (.getfield 10, 3) := by decide +kernel
theorem dX10_text_16 : decode cX10_text 16 = .ok (.invokevirtual 48, 3) := by decide +kernel
theorem dX10_text_19 : decode cX10_text 19 = .ok (.istore_n 1, 1) := by decide +kernel
theorem dX10_text_20 : decode cX10_text 20 = .ok (.iload_n 1, 1) := by decide +kernel
theorem dX10_text_21 : decode cX10_text 21 = .ok (.ifCond .ge 33, 3) := by decide +kernel
theorem dX10_text_24 : decode cX10_text 24 = .ok (.aload_n 0, 1) := by decide +kernel
theorem dX10_text_25 : decode cX10_text 25 = .ok (.getfield 18, 3) := by decide +kernel
theorem dX10_text_28 : decode cX10_text 28 = .ok (.aload_n 0, 1) := by decide +kernel
theorem dX10_text_29 : decode cX10_text 29 = .ok (.getfield 59, 3) := by decide +kernel
theorem dX10_text_32 : decode cX10_text 32 = .ok (.aload_n 0, 1) := by decide +kernel
theorem dX10_text_33 : decode cX10_text 33 = .ok (.getfield 10, 3) := by decide +kernel
theorem dX10_text_36 : decode cX10_text 36 = .ok (.aload_n 0, 1) := by decide +kernel
theorem dX10_text_37 : decode cX10_text 37 = .ok (.getfield 59, 3) := by decide +kernel
theorem dX10_text_40 : decode cX10_text 40 = .ok (.invokevirtual 52, 3) := by decide +kernel
theorem dX10_text_43 : decode cX10_text 43 = .ok (.aastore, 1) := by decide +kernel
theorem dX10_text_44 : decode cX10_text 44 = .ok (.aload_n 0, 1) := by decide +kernel
theorem dX10_text_45 : decode cX10_text 45 = .ok (.dup, 1) := by decide +kernel
theorem dX10_text_46 : decode cX10_text 46 = .ok (.getfield 59, 3) := by decide +kernel
theorem dX10_text_49 : decode cX10_text 49 = .ok (.iconst 1, 1) := by decide +kernel
theorem dX10_text_50 : decode cX10_text 50 = .ok (.iadd, 1) := by decide +kernel
theorem dX10_text_51 : decode cX10_text 51 = .ok (.putfield 59, 3) := by decide +kernel
theorem dX10_text_54 : decode cX10_text 54 = .ok (.aload_n 0, 1) := by decide +kernel
theorem dX10_text_55 : decode cX10_text 55 = .ok (.getfield 10, 3) := by decide +kernel
theorem dX10_text_58 : decode cX10_text 58 = .ok (.invokevirtual 56, 3) := by decide +kernel
theorem dX10_text_61 : decode cX10_text 61 = .ok (.iload_n 1, 1) := by decide +kernel
theorem dX10_text_62 : decode cX10_text 62 = .ok (.ifCond .ge 12, 3) := by decide +kernel
theorem dX10_text_65 : decode cX10_text 65 = .ok (.aload_n 0, 1) := by decide +kernel
theorem dX10_text_66 : decode cX10_text 66 = .ok (.getfield 59, 3) := by decide +kernel
theorem dX10_text_69 : decode cX10_text 69 = .ok (.iconst 1, 1) := by decide +kernel
theorem dX10_text_70 : decode cX10_text 70 = .ok (.isub, 1) := by decide +kernel
theorem dX10_text_71 : decode cX10_text 71 = .ok (.goto 7, 3) := by decide +kernel
theorem dX10_text_74 : decode cX10_text 74 = .ok (.bipush (-100), 2) := by decide +kernel
theorem dX10_text_76 : decode cX10_text 76 = .ok (.iload_n 1, 1) := by decide +kernel
theorem dX10_text_77 : decode cX10_text 77 = .ok (.isub, 1) := by decide +kernel
theorem dX10_text_78 : decode cX10_text 78 = .ok (.ireturn, 1) := by decide +kernel
theorem dX10_force_0 : decode cX10_force 0 = .ok (.aload_n 0, 1) := by decide +kernel
theorem dX10_force_1 : decode cX10_force 1 = .ok (.iload_n 1, 1) := by decide +kernel
theorem dX10_force_2 : decode cX10_force 2 = .ok (.invokevirtual 117, 3) := by decide +kernel
theorem dX10_force_5 : decode cX10_force 5 = .ok (.astore_n 2, 1) := by decide +kernel
theorem dX10_force_6 : decode cX10_force 6 = .ok (.aload_n 2, 1) := by decide +kernel
theorem dX10_force_7 : decode cX10_force 7 = .ok (.ifnonnull 6, 3) := by decide +kernel
theorem dX10_force_10 : decode cX10_force 10 = .ok (.bipush (-2), 2) := by decide +kernel
theorem dX10_force_12 : decode cX10_force 12 = .ok (.ireturn, 1) := by decide +kernel
theorem dX10_force_13 : decode cX10_force 13 = .ok (.aload_n 0, 1) := by decide +kernel
theorem dX10_force_14 : decode cX10_force 14 = .ok (.getfield 68, 3) := by decide +kernel
theorem dX10_force_17 : decode cX10_force 17 = .ok (.getfield 92, 3) := by decide +kernel
theorem dX10_force_20 : decode cX10_force 20 = .ok (.getfield 96, 3) := by decide +kernel
theorem dX10_force_23 : decode cX10_force 23 = .ok (.istore_n 3, 1) := by decide +kernel
theorem dX10_force_24 : decode cX10_force 24 = .ok (.aload_n 0, 1) := by decide +kernel
theorem dX10_force_25 : decode cX10_force 25 = .ok (.getfield 68, 3) := by decide +kernel
theorem dX10_force_28 : decode cX10_force 28 = .ok (.aload_n 2, 1) := by decide +kernel
theorem dX10_force_29 : decode cX10_force 29 = .ok (.putfield 92, 3) := by decide +kernel
theorem dX10_force_32 : decode cX10_force 32 = .ok (.iload_n 3, 1) := by decide +kernel
theorem dX10_force_33 : decode cX10_force 33 = .ok (.ireturn, 1) := by decide +kernel
theorem dX10_asks_0 : decode cX10_asks 0 = .ok (.aload_n 0, 1) := by decide +kernel
theorem dX10_asks_1 : decode cX10_asks 1 = .ok (.getfield 68, 3) := by decide +kernel
theorem dX10_asks_4 : decode cX10_asks 4 = .ok (.iload_n 2, 1) := by decide +kernel
theorem dX10_asks_5 : decode cX10_asks 5 = .ok (.invokevirtual 120, 3) := by decide +kernel
theorem dX10_asks_8 : decode cX10_asks 8 = .ok (.astore 5, 2) := by decide +kernel
theorem dX10_asks_10 : decode cX10_asks 10 = .ok (.aload_n 0, 1) := by decide +kernel
theorem dX10_asks_11 : decode cX10_asks 11 = .ok (.getfield 68, 3) := by decide +kernel
theorem dX10_asks_14 : decode cX10_asks 14 = .ok (.iload_n 3, 1) := by decide +kernel
theorem dX10_asks_15 : decode cX10_asks 15 = .ok (.invokevirtual 124, 3) := by decide +kernel
theorem dX10_asks_18 : decode cX10_asks 18 = .ok (.astore 6, 2) := by decide +kernel
theorem dX10_asks_20 : decode cX10_asks 20 = .ok (.iload_n 1, 1) := by decide +kernel
theorem dX10_asks_21 : decode cX10_asks 21 = .ok (.iconst 0, 1) := by decide +kernel
theorem dX10_asks_22 : decode cX10_asks 22 = .ok (.iconst 2, 1) := by decide +kernel
theorem dX10_asks_23 : decode cX10_asks 23 = .ok (.invokestatic 102, 3) := by decide +kernel
theorem dX10_asks_26 : decode cX10_asks 26 = .ok (.ifCond .eq 25, 3) := by decide +kernel
theorem dX10_asks_29 : decode cX10_asks 29 = .ok (.aload 5, 2) := by decide +kernel
theorem dX10_asks_31 : decode cX10_asks 31 = .ok (.ifnull 20, 3) := by decide +kernel
theorem dX10_asks_34 : decode cX10_asks 34 = .ok (.aload 6, 2) := by decide +kernel
theorem dX10_asks_36 : decode cX10_asks 36 = .ok (.ifnull 15, 3) := by decide +kernel
theorem dX10_asks_39 : decode cX10_asks 39 = .ok (.iload 4, 2) := by decide +kernel
theorem dX10_asks_41 : decode cX10_asks 41 = .ok (.iconst 0, 1) := by decide +kernel
theorem dX10_asks_42 : decode cX10_asks 42 = .ok (.sipush 1099, 3) := by decide +kernel
theorem dX10_asks_45 : decode cX10_asks 45 = .ok (.invokestatic 102, 3) := by decide +kernel
theorem dX10_asks_48 : decode cX10_asks 48 = .ok (.ifCond .ne 6, 3) := by decide +kernel
theorem dX10_asks_51 : decode cX10_asks 51 = .ok (.bipush (-2), 2) := by decide +kernel
theorem dX10_asks_53 : decode cX10_asks 53 = .ok (.ireturn, 1) := by decide +kernel
theorem dX10_asks_54 : decode cX10_asks 54 = .ok (.aload_n 0, 1) := by decide +kernel
theorem dX10_asks_55 : decode cX10_asks 55 = .ok (.getfield 68, 3) := by decide +kernel
theorem dX10_asks_58 : decode cX10_asks 58 = .ok (.iload_n 1, 1) := by decide +kernel
theorem dX10_asks_59 : decode cX10_asks 59 = .ok (.aload 5, 2) := by decide +kernel
theorem dX10_asks_61 : decode cX10_asks 61 = .ok (.aload 6, 2) := by decide +kernel
theorem dX10_asks_63 : decode cX10_asks 63 = .ok (.iload 4, 2) := by decide +kernel
theorem dX10_asks_65 : decode cX10_asks 65 = .ok (.bipush 100, 2) := by decide +kernel
theorem dX10_asks_67 : decode cX10_asks 67 = .ok (.idiv, 1) := by decide +kernel
theorem dX10_asks_68 : decode cX10_asks 68 = .ok (.iload 4, 2) := by decide +kernel
theorem dX10_asks_70 : decode cX10_asks 70 = .ok (.bipush 100, 2) := by decide +kernel
theorem dX10_asks_72 : decode cX10_asks 72 = .ok (.irem, 1) := by decide +kernel
theorem dX10_asks_73 : decode cX10_asks 73 = .ok (.invokevirtual 128, 3) := by decide +kernel
theorem dX10_asks_76 : decode cX10_asks 76 = .ok (.ireturn, 1) := by decide +kernel
theorem dX10_good_0 : decode cX10_good 0 = .ok (.iload_n 1, 1) := by decide +kernel
theorem dX10_good_1 : decode cX10_good 1 = .ok (.iconst 0, 1) := by decide +kernel
theorem dX10_good_2 : decode cX10_good 2 = .ok (.bipush 9, 2) := by decide +kernel
theorem dX10_good_4 : decode cX10_good 4 = .ok (.invokestatic 102, 3) := by decide +kernel
theorem dX10_good_7 : decode cX10_good 7 = .ok (.ifCond .eq 13, 3) := by decide +kernel
theorem dX10_good_10 : decode cX10_good 10 = .ok (.iload_n 2, 1) := by decide +kernel
theorem dX10_good_11 : decode cX10_good 11 = .ok (.iconst 0, 1) := by decide +kernel
theorem dX10_good_12 : decode cX10_good 12 = .ok (.bipush 99, 2) := by decide +kernel
theorem dX10_good_14 : decode cX10_good 14 = .ok (.invokestatic 102, 3) := by decide +kernel
theorem dX10_good_17 : decode cX10_good 17 = .ok (.ifCond .ne 6, 3) := by decide +kernel
theorem dX10_good_20 : decode cX10_good 20 = .ok (.bipush (-2), 2) := by decide +kernel
theorem dX10_good_22 : decode cX10_good 22 = .ok (.ireturn, 1) := by decide +kernel
theorem dX10_good_23 : decode cX10_good 23 = .ok (.aload_n 0, 1) := by decide +kernel
theorem dX10_good_24 : decode cX10_good 24 = .ok (.getfield 68, 3) := by decide +kernel
theorem dX10_good_27 : decode cX10_good 27 = .ok (.iload_n 1, 1) := by decide +kernel
theorem dX10_good_28 : decode cX10_good 28 = .ok (.iload_n 2, 1) := by decide +kernel
theorem dX10_good_29 : decode cX10_good 29 = .ok (.invokevirtual 132, 3) := by decide +kernel
theorem dX10_good_32 : decode cX10_good 32 = .ok (.ireturn, 1) := by decide +kernel
theorem dX10_put_0 : decode cX10_put 0 = .ok (.aload_n 0, 1) := by decide +kernel
theorem dX10_put_1 : decode cX10_put 1 = .ok (.getfield 68, 3) := by decide +kernel
theorem dX10_put_4 : decode cX10_put 4 = .ok (.iload_n 1, 1) := by decide +kernel
theorem dX10_put_5 : decode cX10_put 5 = .ok (.invokevirtual 124, 3) := by decide +kernel
theorem dX10_put_8 : decode cX10_put 8 = .ok (.astore 4, 2) := by decide +kernel
theorem dX10_put_10 : decode cX10_put 10 = .ok (.aload 4, 2) := by decide +kernel
theorem dX10_put_12 : decode cX10_put 12 = .ok (.ifnonnull 6, 3) := by decide +kernel
theorem dX10_put_15 : decode cX10_put 15 = .ok (.bipush (-5), 2) := by decide +kernel
theorem dX10_put_17 : decode cX10_put 17 = .ok (.ireturn, 1) := by decide +kernel
theorem dX10_put_18 : decode cX10_put 18 = .ok (.iload_n 2, 1) := by decide +kernel
theorem dX10_put_19 : decode cX10_put 19 = .ok (.iconst 0, 1) := by decide +kernel
theorem dX10_put_20 : decode cX10_put 20 = .ok (.bipush 11, 2) := by decide +kernel
theorem dX10_put_22 : decode cX10_put 22 = .ok (.invokestatic 102, 3) := by decide +kernel
theorem dX10_put_25 : decode cX10_put 25 = .ok (.ifCond .eq 15, 3) := by decide +kernel
theorem dX10_put_28 : decode cX10_put 28 = .ok (.iload_n 3, 1) := by decide +kernel
theorem dX10_put_29 : decode cX10_put 29 = .ok (.iconst 0, 1) := by decide +kernel
theorem dX10_put_30 : decode cX10_put 30 = .ok (.iload_n 2, 1) := by decide +kernel
theorem dX10_put_31 : decode cX10_put 31 = .ok (.invokestatic 138, 3) := by decide +kernel
theorem dX10_put_34 : decode cX10_put 34 = .ok (.invokestatic 102, 3) := by decide +kernel
theorem dX10_put_37 : decode cX10_put 37 = .ok (.ifCond .ne 6, 3) := by decide +kernel
theorem dX10_put_40 : decode cX10_put 40 = .ok (.bipush (-7), 2) := by decide +kernel
theorem dX10_put_42 : decode cX10_put 42 = .ok (.ireturn, 1) := by decide +kernel
theorem dX10_put_43 : decode cX10_put 43 = .ok (.aload 4, 2) := by decide +kernel
theorem dX10_put_45 : decode cX10_put 45 = .ok (.iload_n 2, 1) := by decide +kernel
theorem dX10_put_46 : decode cX10_put 46 = .ok (.invokevirtual 142, 3) := by decide +kernel
theorem dX10_put_49 : decode cX10_put 49 = .ok (.istore 5, 2) := by decide +kernel
theorem dX10_put_51 : decode cX10_put 51 = .ok (.aload 4, 2) := by decide +kernel
theorem dX10_put_53 : decode cX10_put 53 = .ok (.iload_n 2, 1) := by decide +kernel
theorem dX10_put_54 : decode cX10_put 54 = .ok (.iload_n 3, 1) := by decide +kernel
theorem dX10_put_55 : decode cX10_put 55 = .ok (.invokevirtual 145, 3) := by decide +kernel
theorem dX10_put_58 : decode cX10_put 58 = .ok (.iload 5, 2) := by decide +kernel
theorem dX10_put_60 : decode cX10_put 60 = .ok (.ireturn, 1) := by decide +kernel
theorem dX10_part_0 : decode cX10_part 0 = .ok (.aload_n 0, 1) := by decide +kernel
theorem dX10_part_1 : decode cX10_part 1 = .ok (.getfield 68, 3) := by decide +kernel
theorem dX10_part_4 : decode cX10_part 4 = .ok (.iload_n 1, 1) := by decide +kernel
theorem dX10_part_5 : decode cX10_part 5 = .ok (.invokevirtual 124, 3) := by decide +kernel
theorem dX10_part_8 : decode cX10_part 8 = .ok (.astore_n 3, 1) := by decide +kernel
theorem dX10_part_9 : decode cX10_part 9 = .ok (.aload_n 3, 1) := by decide +kernel
theorem dX10_part_10 : decode cX10_part 10 = .ok (.ifnonnull 6, 3) := by decide +kernel
theorem dX10_part_13 : decode cX10_part 13 = .ok (.bipush (-5), 2) := by decide +kernel
theorem dX10_part_15 : decode cX10_part 15 = .ok (.ireturn, 1) := by decide +kernel
theorem dX10_part_16 : decode cX10_part 16 = .ok (.iload_n 2, 1) := by decide +kernel
theorem dX10_part_17 : decode cX10_part 17 = .ok (.iconst 0, 1) := by decide +kernel
theorem dX10_part_18 : decode cX10_part 18 = .ok (.bipush 11, 2) := by decide +kernel
theorem dX10_part_20 : decode cX10_part 20 = .ok (.invokestatic 102, 3) := by decide +kernel
theorem dX10_part_23 : decode cX10_part 23 = .ok (.ifCond .eq 11, 3) := by decide +kernel
theorem dX10_part_26 : decode cX10_part 26 = .ok (.aload_n 3, 1) := by decide +kernel
theorem dX10_part_27 : decode cX10_part 27 = .ok (.iload_n 2, 1) := by decide +kernel
theorem dX10_part_28 : decode cX10_part 28 = .ok (.invokevirtual 142, 3) := by decide +kernel
theorem dX10_part_31 : decode cX10_part 31 = .ok (.goto 5, 3) := by decide +kernel
theorem dX10_part_34 : decode cX10_part 34 = .ok (.bipush (-7), 2) := by decide +kernel
theorem dX10_part_36 : decode cX10_part 36 = .ok (.ireturn, 1) := by decide +kernel
theorem dX10_eater_0 : decode cX10_eater 0 = .ok (.aload_n 0, 1) := by decide +kernel
theorem dX10_eater_1 : decode cX10_eater 1 = .ok (.iload_n 1, 1) := by decide +kernel
theorem dX10_eater_2 : decode cX10_eater 2 = .ok (.iload_n 2, 1) := by decide +kernel
theorem dX10_eater_3 : decode cX10_eater 3 = .ok (.invokevirtual 149, 3) := by decide +kernel
theorem dX10_eater_6 : decode cX10_eater 6 = .ok (.ireturn, 1) := by decide +kernel
theorem dX10_told_0 : decode cX10_told 0 = .ok (.aload_n 0, 1) := by decide +kernel
theorem dX10_told_1 : decode cX10_told 1 = .ok (.getfield 68, 3) := by decide +kernel
theorem dX10_told_4 : decode cX10_told 4 = .ok (.iload_n 1, 1) := by decide +kernel
theorem dX10_told_5 : decode cX10_told 5 = .ok (.invokevirtual 120, 3) := by decide +kernel
theorem dX10_told_8 : decode cX10_told 8 = .ok (.astore_n 3, 1) := by decide +kernel
theorem dX10_told_9 : decode cX10_told 9 = .ok (.aload_n 3, 1) := by decide +kernel
theorem dX10_told_10 : decode cX10_told 10 = .ok (.ifnonnull 6, 3) := by decide +kernel
theorem dX10_told_13 : decode cX10_told 13 = .ok (.bipush (-5), 2) := by decide +kernel
theorem dX10_told_15 : decode cX10_told 15 = .ok (.ireturn, 1) := by decide +kernel
theorem dX10_told_16 : decode cX10_told 16 = .ok (.iload_n 2, 1) := by decide +kernel
theorem dX10_told_17 : decode cX10_told 17 = .ok (.tableswitch 60 0 4 #[35, 40, 45, 50, 55], 35) := by decide +kernel
theorem dX10_told_52 : decode cX10_told 52 = .ok (.aload_n 3, 1) := by decide +kernel
theorem dX10_told_53 : decode cX10_told 53 = .ok (.getfield 152, 3) := by decide +kernel
theorem dX10_told_56 : decode cX10_told 56 = .ok (.ireturn, 1) := by decide +kernel
theorem dX10_told_57 : decode cX10_told 57 = .ok (.aload_n 3, 1) := by decide +kernel
theorem dX10_told_58 : decode cX10_told 58 = .ok (.getfield 157, 3) := by decide +kernel
theorem dX10_told_61 : decode cX10_told 61 = .ok (.ireturn, 1) := by decide +kernel
theorem dX10_told_62 : decode cX10_told 62 = .ok (.aload_n 3, 1) := by decide +kernel
theorem dX10_told_63 : decode cX10_told 63 = .ok (.getfield 160, 3) := by decide +kernel
theorem dX10_told_66 : decode cX10_told 66 = .ok (.ireturn, 1) := by decide +kernel
theorem dX10_told_67 : decode cX10_told 67 = .ok (.aload_n 3, 1) := by decide +kernel
theorem dX10_told_68 : decode cX10_told 68 = .ok (.getfield 163, 3) := by decide +kernel
theorem dX10_told_71 : decode cX10_told 71 = .ok (.ireturn, 1) := by decide +kernel
theorem dX10_told_72 : decode cX10_told 72 = .ok (.aload_n 3, 1) := by decide +kernel
theorem dX10_told_73 : decode cX10_told 73 = .ok (.getfield 166, 3) := by decide +kernel
theorem dX10_told_76 : decode cX10_told 76 = .ok (.ireturn, 1) := by decide +kernel
theorem dX10_told_77 : decode cX10_told 77 = .ok (.bipush (-7), 2) := by decide +kernel
theorem dX10_told_79 : decode cX10_told 79 = .ok (.ireturn, 1) := by decide +kernel
theorem dX10_lend_0 : decode cX10_lend 0 = .ok (.aload_n 0, 1) := by decide +kernel
theorem dX10_lend_1 : decode cX10_lend 1 = .ok (.getfield 68, 3) := by decide +kernel
theorem dX10_lend_4 : decode cX10_lend 4 = .ok (.iload_n 1, 1) := by decide +kernel
theorem dX10_lend_5 : decode cX10_lend 5 = .ok (.invokevirtual 120, 3) := by decide +kernel
theorem dX10_lend_8 : decode cX10_lend 8 = .ok (.astore 4, 2) := by decide +kernel
theorem dX10_lend_10 : decode cX10_lend 10 = .ok (.aload 4, 2) := by decide +kernel
theorem dX10_lend_12 : decode cX10_lend 12 = .ok (.ifnonnull 6, 3) := by decide +kernel
theorem dX10_lend_15 : decode cX10_lend 15 = .ok (.bipush (-5), 2) := by decide +kernel
theorem dX10_lend_17 : decode cX10_lend 17 = .ok (.ireturn, 1) := by decide +kernel
theorem dX10_lend_18 : decode cX10_lend 18 = .ok (.iload_n 2, 1) := by decide +kernel
theorem dX10_lend_19 : decode cX10_lend 19 = .ok (.ifCond .ne 29, 3) := by decide +kernel
theorem dX10_lend_22 : decode cX10_lend 22 = .ok (.iload_n 3, 1) := by decide +kernel
theorem dX10_lend_23 : decode cX10_lend 23 = .ok (.iconst 1, 1) := by decide +kernel
theorem dX10_lend_24 : decode cX10_lend 24 = .ok (.bipush 63, 2) := by decide +kernel
theorem dX10_lend_26 : decode cX10_lend 26 = .ok (.invokestatic 102, 3) := by decide +kernel
theorem dX10_lend_29 : decode cX10_lend 29 = .ok (.ifCond .eq 19, 3) := by decide +kernel
theorem dX10_lend_32 : decode cX10_lend 32 = .ok (.aload 4, 2) := by decide +kernel
theorem dX10_lend_34 : decode cX10_lend 34 = .ok (.getfield 160, 3) := by decide +kernel
theorem dX10_lend_37 : decode cX10_lend 37 = .ok (.istore 5, 2) := by decide +kernel
theorem dX10_lend_39 : decode cX10_lend 39 = .ok (.aload 4, 2) := by decide +kernel
theorem dX10_lend_41 : decode cX10_lend 41 = .ok (.iload_n 3, 1) := by decide +kernel
theorem dX10_lend_42 : decode cX10_lend 42 = .ok (.putfield 160, 3) := by decide +kernel
theorem dX10_lend_45 : decode cX10_lend 45 = .ok (.iload 5, 2) := by decide +kernel
theorem dX10_lend_47 : decode cX10_lend 47 = .ok (.ireturn, 1) := by decide +kernel
theorem dX10_lend_48 : decode cX10_lend 48 = .ok (.iload_n 2, 1) := by decide +kernel
theorem dX10_lend_49 : decode cX10_lend 49 = .ok (.iconst 1, 1) := by decide +kernel
theorem dX10_lend_50 : decode cX10_lend 50 = .ok (.if_icmp .ne 30, 3) := by decide +kernel
theorem dX10_lend_53 : decode cX10_lend 53 = .ok (.iload_n 3, 1) := by decide +kernel
theorem dX10_lend_54 : decode cX10_lend 54 = .ok (.iconst 0, 1) := by decide +kernel
theorem dX10_lend_55 : decode cX10_lend 55 = .ok (.sipush 9999, 3) := by decide +kernel
theorem dX10_lend_58 : decode cX10_lend 58 = .ok (.invokestatic 102, 3) := by decide +kernel
theorem dX10_lend_61 : decode cX10_lend 61 = .ok (.ifCond .eq 19, 3) := by decide +kernel
theorem dX10_lend_64 : decode cX10_lend 64 = .ok (.aload 4, 2) := by decide +kernel
theorem dX10_lend_66 : decode cX10_lend 66 = .ok (.getfield 163, 3) := by decide +kernel
theorem dX10_lend_69 : decode cX10_lend 69 = .ok (.istore 5, 2) := by decide +kernel
theorem dX10_lend_71 : decode cX10_lend 71 = .ok (.aload 4, 2) := by decide +kernel
theorem dX10_lend_73 : decode cX10_lend 73 = .ok (.iload_n 3, 1) := by decide +kernel
theorem dX10_lend_74 : decode cX10_lend 74 = .ok (.putfield 163, 3) := by decide +kernel
theorem dX10_lend_77 : decode cX10_lend 77 = .ok (.iload 5, 2) := by decide +kernel
theorem dX10_lend_79 : decode cX10_lend 79 = .ok (.ireturn, 1) := by decide +kernel
theorem dX10_lend_80 : decode cX10_lend 80 = .ok (.bipush (-7), 2) := by decide +kernel
theorem dX10_lend_82 : decode cX10_lend 82 = .ok (.ireturn, 1) := by decide +kernel
theorem dX10_shape_0 : decode cX10_shape 0 = .ok (.aload_n 0, 1) := by decide +kernel
theorem dX10_shape_1 : decode cX10_shape 1 = .ok (.getfield 68, 3) := by decide +kernel
theorem dX10_shape_4 : decode cX10_shape 4 = .ok (.iload_n 1, 1) := by decide +kernel
theorem dX10_shape_5 : decode cX10_shape 5 = .ok (.invokevirtual 120, 3) := by decide +kernel
theorem dX10_shape_8 : decode cX10_shape 8 = .ok (.astore_n 3, 1) := by decide +kernel
theorem dX10_shape_9 : decode cX10_shape 9 = .ok (.aload_n 0, 1) := by decide +kernel
theorem dX10_shape_10 : decode cX10_shape 10 = .ok (.getfield 68, 3) := by decide +kernel
theorem dX10_shape_13 : decode cX10_shape 13 = .ok (.iload_n 2, 1) := by decide +kernel
theorem dX10_shape_14 : decode cX10_shape 14 = .ok (.invokevirtual 124, 3) := by decide +kernel
theorem dX10_shape_17 : decode cX10_shape 17 = .ok (.astore 4, 2) := by decide +kernel
theorem dX10_shape_19 : decode cX10_shape 19 = .ok (.aload_n 3, 1) := by decide +kernel
theorem dX10_shape_20 : decode cX10_shape 20 = .ok (.ifnull 8, 3) := by decide +kernel
theorem dX10_shape_23 : decode cX10_shape 23 = .ok (.aload 4, 2) := by decide +kernel
theorem dX10_shape_25 : decode cX10_shape 25 = .ok (.ifnonnull 6, 3) := by decide +kernel
theorem dX10_shape_28 : decode cX10_shape 28 = .ok (.bipush (-5), 2) := by decide +kernel
theorem dX10_shape_30 : decode cX10_shape 30 = .ok (.ireturn, 1) := by decide +kernel
theorem dX10_shape_31 : decode cX10_shape 31 = .ok (.aload_n 3, 1) := by decide +kernel
theorem dX10_shape_32 : decode cX10_shape 32 = .ok (.aload 4, 2) := by decide +kernel
theorem dX10_shape_34 : decode cX10_shape 34 = .ok (.invokevirtual 169, 3) := by decide +kernel
theorem dX10_shape_37 : decode cX10_shape 37 = .ok (.ireturn, 1) := by decide +kernel
theorem dX10_mark_0 : decode cX10_mark 0 = .ok (.aload_n 0, 1) := by decide +kernel
theorem dX10_mark_1 : decode cX10_mark 1 = .ok (.getfield 68, 3) := by decide +kernel
theorem dX10_mark_4 : decode cX10_mark 4 = .ok (.iload_n 1, 1) := by decide +kernel
theorem dX10_mark_5 : decode cX10_mark 5 = .ok (.invokevirtual 120, 3) := by decide +kernel
theorem dX10_mark_8 : decode cX10_mark 8 = .ok (.astore 5, 2) := by decide +kernel
theorem dX10_mark_10 : decode cX10_mark 10 = .ok (.aload_n 0, 1) := by decide +kernel
theorem dX10_mark_11 : decode cX10_mark 11 = .ok (.getfield 68, 3) := by decide +kernel
theorem dX10_mark_14 : decode cX10_mark 14 = .ok (.iload_n 2, 1) := by decide +kernel
theorem dX10_mark_15 : decode cX10_mark 15 = .ok (.invokevirtual 124, 3) := by decide +kernel
theorem dX10_mark_18 : decode cX10_mark 18 = .ok (.astore 6, 2) := by decide +kernel
theorem dX10_mark_20 : decode cX10_mark 20 = .ok (.aload 5, 2) := by decide +kernel
theorem dX10_mark_22 : decode cX10_mark 22 = .ok (.ifnull 8, 3) := by decide +kernel
theorem dX10_mark_25 : decode cX10_mark 25 = .ok (.aload 6, 2) := by decide +kernel
theorem dX10_mark_27 : decode cX10_mark 27 = .ok (.ifnonnull 6, 3) := by decide +kernel
theorem dX10_mark_30 : decode cX10_mark 30 = .ok (.bipush (-5), 2) := by decide +kernel
theorem dX10_mark_32 : decode cX10_mark 32 = .ok (.ireturn, 1) := by decide +kernel
theorem dX10_mark_33 : decode cX10_mark 33 = .ok (.iload_n 3, 1) := by decide +kernel
theorem dX10_mark_34 : decode cX10_mark 34 = .ok (.invokestatic 173, 3) := by decide +kernel
theorem dX10_mark_37 : decode cX10_mark 37 = .ok (.ifCond .eq 13, 3) := by decide +kernel
theorem dX10_mark_40 : decode cX10_mark 40 = .ok (.iload 4, 2) := by decide +kernel
theorem dX10_mark_42 : decode cX10_mark 42 = .ok (.iconst 0, 1) := by decide +kernel
theorem dX10_mark_43 : decode cX10_mark 43 = .ok (.iconst 2, 1) := by decide +kernel
theorem dX10_mark_44 : decode cX10_mark 44 = .ok (.invokestatic 102, 3) := by decide +kernel
theorem dX10_mark_47 : decode cX10_mark 47 = .ok (.ifCond .ne 6, 3) := by decide +kernel
theorem dX10_mark_50 : decode cX10_mark 50 = .ok (.bipush (-7), 2) := by decide +kernel
theorem dX10_mark_52 : decode cX10_mark 52 = .ok (.ireturn, 1) := by decide +kernel
theorem dX10_mark_53 : decode cX10_mark 53 = .ok (.aload 5, 2) := by decide +kernel
theorem dX10_mark_55 : decode cX10_mark 55 = .ok (.aload 6, 2) := by decide +kernel
theorem dX10_mark_57 : decode cX10_mark 57 = .ok (.iload_n 3, 1) := by decide +kernel
theorem dX10_mark_58 : decode cX10_mark 58 = .ok (.invokevirtual 176, 3) := by decide +kernel
theorem dX10_mark_61 : decode cX10_mark 61 = .ok (.istore 7, 2) := by decide +kernel
theorem dX10_mark_63 : decode cX10_mark 63 = .ok (.iload 4, 2) := by decide +kernel
theorem dX10_mark_65 : decode cX10_mark 65 = .ok (.ifCond .ne 6, 3) := by decide +kernel
theorem dX10_mark_68 : decode cX10_mark 68 = .ok (.iload 7, 2) := by decide +kernel
theorem dX10_mark_70 : decode cX10_mark 70 = .ok (.ireturn, 1) := by decide +kernel
theorem dX10_mark_71 : decode cX10_mark 71 = .ok (.iload 4, 2) := by decide +kernel
theorem dX10_mark_73 : decode cX10_mark 73 = .ok (.iconst 1, 1) := by decide +kernel
theorem dX10_mark_74 : decode cX10_mark 74 = .ok (.if_icmp .ne 19, 3) := by decide +kernel
theorem dX10_mark_77 : decode cX10_mark 77 = .ok (.aload_n 0, 1) := by decide +kernel
theorem dX10_mark_78 : decode cX10_mark 78 = .ok (.getfield 68, 3) := by decide +kernel
theorem dX10_mark_81 : decode cX10_mark 81 = .ok (.aload 5, 2) := by decide +kernel
theorem dX10_mark_83 : decode cX10_mark 83 = .ok (.aload 6, 2) := by decide +kernel
theorem dX10_mark_85 : decode cX10_mark 85 = .ok (.iload 7, 2) := by decide +kernel
theorem dX10_mark_87 : decode cX10_mark 87 = .ok (.invokevirtual 180, 3) := by decide +kernel
theorem dX10_mark_90 : decode cX10_mark 90 = .ok (.goto 16, 3) := by decide +kernel
theorem dX10_mark_93 : decode cX10_mark 93 = .ok (.aload_n 0, 1) := by decide +kernel
theorem dX10_mark_94 : decode cX10_mark 94 = .ok (.getfield 68, 3) := by decide +kernel
theorem dX10_mark_97 : decode cX10_mark 97 = .ok (.aload 5, 2) := by decide +kernel
theorem dX10_mark_99 : decode cX10_mark 99 = .ok (.aload 6, 2) := by decide +kernel
theorem dX10_mark_101 : decode cX10_mark 101 = .ok (.iload 7, 2) := by decide +kernel
theorem dX10_mark_103 : decode cX10_mark 103 = .ok (.invokevirtual 184, 3) := by decide +kernel
theorem dX10_mark_106 : decode cX10_mark 106 = .ok (.ireturn, 1) := by decide +kernel
theorem dX10_bite_0 : decode cX10_bite 0 = .ok (.aload_n 0, 1) := by decide +kernel
theorem dX10_bite_1 : decode cX10_bite 1 = .ok (.getfield 68, 3) := by decide +kernel
theorem dX10_bite_4 : decode cX10_bite 4 = .ok (.iload_n 1, 1) := by decide +kernel
theorem dX10_bite_5 : decode cX10_bite 5 = .ok (.invokevirtual 120, 3) := by decide +kernel
theorem dX10_bite_8 : decode cX10_bite 8 = .ok (.astore 4, 2) := by decide +kernel
theorem dX10_bite_10 : decode cX10_bite 10 = .ok (.aload_n 0, 1) := by decide +kernel
theorem dX10_bite_11 : decode cX10_bite 11 = .ok (.getfield 68, 3) := by decide +kernel
theorem dX10_bite_14 : decode cX10_bite 14 = .ok (.iload_n 2, 1) := by decide +kernel
theorem dX10_bite_15 : decode cX10_bite 15 = .ok (.invokevirtual 124, 3) := by decide +kernel
theorem dX10_bite_18 : decode cX10_bite 18 = .ok (.astore 5, 2) := by decide +kernel
theorem dX10_bite_20 : decode cX10_bite 20 = .ok (.aload 4, 2) := by decide +kernel
theorem dX10_bite_22 : decode cX10_bite 22 = .ok (.ifnull 8, 3) := by decide +kernel
theorem dX10_bite_25 : decode cX10_bite 25 = .ok (.aload 5, 2) := by decide +kernel
theorem dX10_bite_27 : decode cX10_bite 27 = .ok (.ifnonnull 6, 3) := by decide +kernel
theorem dX10_bite_30 : decode cX10_bite 30 = .ok (.bipush (-5), 2) := by decide +kernel
theorem dX10_bite_32 : decode cX10_bite 32 = .ok (.ireturn, 1) := by decide +kernel
theorem dX10_bite_33 : decode cX10_bite 33 = .ok (.iload_n 3, 1) := by decide +kernel
theorem dX10_bite_34 : decode cX10_bite 34 = .ok (.invokestatic 173, 3) := by decide +kernel
theorem dX10_bite_37 : decode cX10_bite 37 = .ok (.ifCond .ne 6, 3) := by decide +kernel
theorem dX10_bite_40 : decode cX10_bite 40 = .ok (.bipush (-7), 2) := by decide +kernel
theorem dX10_bite_42 : decode cX10_bite 42 = .ok (.ireturn, 1) := by decide +kernel
theorem dX10_bite_43 : decode cX10_bite 43 = .ok (.aload 4, 2) := by decide +kernel
theorem dX10_bite_45 : decode cX10_bite 45 = .ok (.aload 5, 2) := by decide +kernel
theorem dX10_bite_47 : decode cX10_bite 47 = .ok (.iload_n 3, 1) := by decide +kernel
theorem dX10_bite_48 : decode cX10_bite 48 = .ok (.invokevirtual 176, 3) := by decide +kernel
theorem dX10_bite_51 : decode cX10_bite 51 = .ok (.istore 6, 2) := by decide +kernel
theorem dX10_bite_53 : decode cX10_bite 53 = .ok (.iload 6, 2) := by decide +kernel
theorem dX10_bite_55 : decode cX10_bite 55 = .ok (.ifCond .ne 6, 3) := by decide +kernel
theorem dX10_bite_58 : decode cX10_bite 58 = .ok (.bipush (-3), 2) := by decide +kernel
theorem dX10_bite_60 : decode cX10_bite 60 = .ok (.ireturn, 1) := by decide +kernel
theorem dX10_bite_61 : decode cX10_bite 61 = .ok (.aload_n 0, 1) := by decide +kernel
theorem dX10_bite_62 : decode cX10_bite 62 = .ok (.getfield 68, 3) := by decide +kernel
theorem dX10_bite_65 : decode cX10_bite 65 = .ok (.aload 4, 2) := by decide +kernel
theorem dX10_bite_67 : decode cX10_bite 67 = .ok (.aload 5, 2) := by decide +kernel
theorem dX10_bite_69 : decode cX10_bite 69 = .ok (.iload 6, 2) := by decide +kernel
theorem dX10_bite_71 : decode cX10_bite 71 = .ok (.invokevirtual 180, 3) := by decide +kernel
theorem dX10_bite_74 : decode cX10_bite 74 = .ok (.istore 7, 2) := by decide +kernel
theorem dX10_bite_76 : decode cX10_bite 76 = .ok (.iload 7, 2) := by decide +kernel
theorem dX10_bite_78 : decode cX10_bite 78 = .ok (.aload 4, 2) := by decide +kernel
theorem dX10_bite_80 : decode cX10_bite 80 = .ok (.getfield 163, 3) := by decide +kernel
theorem dX10_bite_83 : decode cX10_bite 83 = .ok (.if_icmp .le 6, 3) := by decide +kernel
theorem dX10_bite_86 : decode cX10_bite 86 = .ok (.bipush (-4), 2) := by decide +kernel
theorem dX10_bite_88 : decode cX10_bite 88 = .ok (.ireturn, 1) := by decide +kernel
theorem dX10_bite_89 : decode cX10_bite 89 = .ok (.aload_n 0, 1) := by decide +kernel
theorem dX10_bite_90 : decode cX10_bite 90 = .ok (.getfield 68, 3) := by decide +kernel
theorem dX10_bite_93 : decode cX10_bite 93 = .ok (.aload 4, 2) := by decide +kernel
theorem dX10_bite_95 : decode cX10_bite 95 = .ok (.aload 5, 2) := by decide +kernel
theorem dX10_bite_97 : decode cX10_bite 97 = .ok (.iload_n 3, 1) := by decide +kernel
theorem dX10_bite_98 : decode cX10_bite 98 = .ok (.invokevirtual 187, 3) := by decide +kernel
theorem dX10_bite_101 : decode cX10_bite 101 = .ok (.pop, 1) := by decide +kernel
theorem dX10_bite_102 : decode cX10_bite 102 = .ok (.iload 7, 2) := by decide +kernel
theorem dX10_bite_104 : decode cX10_bite 104 = .ok (.ireturn, 1) := by decide +kernel
theorem dX10_best_0 : decode cX10_best 0 = .ok (.aload_n 0, 1) := by decide +kernel
theorem dX10_best_1 : decode cX10_best 1 = .ok (.getfield 68, 3) := by decide +kernel
theorem dX10_best_4 : decode cX10_best 4 = .ok (.iload_n 1, 1) := by decide +kernel
theorem dX10_best_5 : decode cX10_best 5 = .ok (.invokevirtual 120, 3) := by decide +kernel
theorem dX10_best_8 : decode cX10_best 8 = .ok (.astore_n 3, 1) := by decide +kernel
theorem dX10_best_9 : decode cX10_best 9 = .ok (.aload_n 3, 1) := by decide +kernel
theorem dX10_best_10 : decode cX10_best 10 = .ok (.ifnonnull 6, 3) := by decide +kernel
theorem dX10_best_13 : decode cX10_best 13 = .ok (.bipush (-5), 2) := by decide +kernel
theorem dX10_best_15 : decode cX10_best 15 = .ok (.ireturn, 1) := by decide +kernel
theorem dX10_best_16 : decode cX10_best 16 = .ok (.iload_n 2, 1) := by decide +kernel
theorem dX10_best_17 : decode cX10_best 17 = .ok (.iconst 0, 1) := by decide +kernel
theorem dX10_best_18 : decode cX10_best 18 = .ok (.iconst 1, 1) := by decide +kernel
theorem dX10_best_19 : decode cX10_best 19 = .ok (.invokestatic 102, 3) := by decide +kernel
theorem dX10_best_22 : decode cX10_best 22 = .ok (.ifCond .ne 6, 3) := by decide +kernel
theorem dX10_best_25 : decode cX10_best 25 = .ok (.bipush (-7), 2) := by decide +kernel
theorem dX10_best_27 : decode cX10_best 27 = .ok (.ireturn, 1) := by decide +kernel
theorem dX10_best_28 : decode cX10_best 28 = .ok (.aload_n 0, 1) := by decide +kernel
theorem dX10_best_29 : decode cX10_best 29 = .ok (.getfield 68, 3) := by decide +kernel
theorem dX10_best_32 : decode cX10_best 32 = .ok (.aload_n 3, 1) := by decide +kernel
theorem dX10_best_33 : decode cX10_best 33 = .ok (.invokevirtual 191, 3) := by decide +kernel
theorem dX10_best_36 : decode cX10_best 36 = .ok (.iload_n 2, 1) := by decide +kernel
theorem dX10_best_37 : decode cX10_best 37 = .ok (.ifCond .ne 13, 3) := by decide +kernel
theorem dX10_best_40 : decode cX10_best 40 = .ok (.aload_n 0, 1) := by decide +kernel
theorem dX10_best_41 : decode cX10_best 41 = .ok (.getfield 68, 3) := by decide +kernel
theorem dX10_best_44 : decode cX10_best 44 = .ok (.getfield 195, 3) := by decide +kernel
theorem dX10_best_47 : decode cX10_best 47 = .ok (.goto 10, 3) := by decide +kernel
theorem dX10_best_50 : decode cX10_best 50 = .ok (.aload_n 0, 1) := by decide +kernel
theorem dX10_best_51 : decode cX10_best 51 = .ok (.getfield 68, 3) := by decide +kernel
theorem dX10_best_54 : decode cX10_best 54 = .ok (.getfield 198, 3) := by decide +kernel
theorem dX10_best_57 : decode cX10_best 57 = .ok (.ireturn, 1) := by decide +kernel
theorem dX10_orderly_0 : decode cX10_orderly 0 = .ok (.iload_n 1, 1) := by decide +kernel
theorem dX10_orderly_1 : decode cX10_orderly 1 = .ok (.iconst 0, 1) := by decide +kernel
theorem dX10_orderly_2 : decode cX10_orderly 2 = .ok (.iconst 1, 1) := by decide +kernel
theorem dX10_orderly_3 : decode cX10_orderly 3 = .ok (.invokestatic 102, 3) := by decide +kernel
theorem dX10_orderly_6 : decode cX10_orderly 6 = .ok (.ifCond .ne 6, 3) := by decide +kernel
theorem dX10_orderly_9 : decode cX10_orderly 9 = .ok (.bipush (-2), 2) := by decide +kernel
theorem dX10_orderly_11 : decode cX10_orderly 11 = .ok (.ireturn, 1) := by decide +kernel
theorem dX10_orderly_12 : decode cX10_orderly 12 = .ok (.aload_n 0, 1) := by decide +kernel
theorem dX10_orderly_13 : decode cX10_orderly 13 = .ok (.getfield 68, 3) := by decide +kernel
theorem dX10_orderly_16 : decode cX10_orderly 16 = .ok (.getfield 83, 3) := by decide +kernel
theorem dX10_orderly_19 : decode cX10_orderly 19 = .ok (.ifCond .ne 13, 3) := by decide +kernel
theorem dX10_orderly_22 : decode cX10_orderly 22 = .ok (.iload_n 1, 1) := by decide +kernel
theorem dX10_orderly_23 : decode cX10_orderly 23 = .ok (.ifCond .ne 7, 3) := by decide +kernel
theorem dX10_orderly_26 : decode cX10_orderly 26 = .ok (.iconst (-1), 1) := by decide +kernel
theorem dX10_orderly_27 : decode cX10_orderly 27 = .ok (.goto 4, 3) := by decide +kernel
theorem dX10_orderly_30 : decode cX10_orderly 30 = .ok (.iconst 0, 1) := by decide +kernel
theorem dX10_orderly_31 : decode cX10_orderly 31 = .ok (.ireturn, 1) := by decide +kernel
theorem dX10_orderly_32 : decode cX10_orderly 32 = .ok (.aload_n 0, 1) := by decide +kernel
theorem dX10_orderly_33 : decode cX10_orderly 33 = .ok (.getfield 78, 3) := by decide +kernel
theorem dX10_orderly_36 : decode cX10_orderly 36 = .ok (.aload_n 0, 1) := by decide +kernel
theorem dX10_orderly_37 : decode cX10_orderly 37 = .ok (.getfield 68, 3) := by decide +kernel
theorem dX10_orderly_40 : decode cX10_orderly 40 = .ok (.invokevirtual 201, 3) := by decide +kernel
theorem dX10_orderly_43 : decode cX10_orderly 43 = .ok (.aload_n 0, 1) := by decide +kernel
theorem dX10_orderly_44 : decode cX10_orderly 44 = .ok (.getfield 78, 3) := by decide +kernel
theorem dX10_orderly_47 : decode cX10_orderly 47 = .ok (.iconst 0, 1) := by decide +kernel
theorem dX10_orderly_48 : decode cX10_orderly 48 = .ok (.iconst 0, 1) := by decide +kernel
theorem dX10_orderly_49 : decode cX10_orderly 49 = .ok (.iconst 0, 1) := by decide +kernel
theorem dX10_orderly_50 : decode cX10_orderly 50 = .ok (.iconst 0, 1) := by decide +kernel
theorem dX10_orderly_51 : decode cX10_orderly 51 = .ok (.invokevirtual 205, 3) := by decide +kernel
theorem dX10_orderly_54 : decode cX10_orderly 54 = .ok (.iload_n 1, 1) := by decide +kernel
theorem dX10_orderly_55 : decode cX10_orderly 55 = .ok (.ifCond .ne 13, 3) := by decide +kernel
theorem dX10_orderly_58 : decode cX10_orderly 58 = .ok (.aload_n 0, 1) := by decide +kernel
theorem dX10_orderly_59 : decode cX10_orderly 59 = .ok (.getfield 78, 3) := by decide +kernel
theorem dX10_orderly_62 : decode cX10_orderly 62 = .ok (.getfield 209, 3) := by decide +kernel
theorem dX10_orderly_65 : decode cX10_orderly 65 = .ok (.goto 10, 3) := by decide +kernel
theorem dX10_orderly_68 : decode cX10_orderly 68 = .ok (.aload_n 0, 1) := by decide +kernel
theorem dX10_orderly_69 : decode cX10_orderly 69 = .ok (.getfield 78, 3) := by decide +kernel
theorem dX10_orderly_72 : decode cX10_orderly 72 = .ok (.getfield 212, 3) := by decide +kernel
theorem dX10_orderly_75 : decode cX10_orderly 75 = .ok (.ireturn, 1) := by decide +kernel
theorem dX10_duel_0 : decode cX10_duel 0 = .ok (.aload_n 0, 1) := by decide +kernel
theorem dX10_duel_1 : decode cX10_duel 1 = .ok (.getfield 78, 3) := by decide +kernel
theorem dX10_duel_4 : decode cX10_duel 4 = .ok (.aload_n 0, 1) := by decide +kernel
theorem dX10_duel_5 : decode cX10_duel 5 = .ok (.getfield 68, 3) := by decide +kernel
theorem dX10_duel_8 : decode cX10_duel 8 = .ok (.invokevirtual 201, 3) := by decide +kernel
theorem dX10_duel_11 : decode cX10_duel 11 = .ok (.aload_n 0, 1) := by decide +kernel
theorem dX10_duel_12 : decode cX10_duel 12 = .ok (.getfield 78, 3) := by decide +kernel
theorem dX10_duel_15 : decode cX10_duel 15 = .ok (.getfield 215, 3) := by decide +kernel
theorem dX10_duel_18 : decode cX10_duel 18 = .ok (.iload_n 1, 1) := by decide +kernel
theorem dX10_duel_19 : decode cX10_duel 19 = .ok (.invokevirtual 120, 3) := by decide +kernel
theorem dX10_duel_22 : decode cX10_duel 22 = .ok (.astore 5, 2) := by decide +kernel
theorem dX10_duel_24 : decode cX10_duel 24 = .ok (.aload_n 0, 1) := by decide +kernel
theorem dX10_duel_25 : decode cX10_duel 25 = .ok (.getfield 78, 3) := by decide +kernel
theorem dX10_duel_28 : decode cX10_duel 28 = .ok (.getfield 215, 3) := by decide +kernel
theorem dX10_duel_31 : decode cX10_duel 31 = .ok (.iload_n 2, 1) := by decide +kernel
theorem dX10_duel_32 : decode cX10_duel 32 = .ok (.invokevirtual 120, 3) := by decide +kernel
theorem dX10_duel_35 : decode cX10_duel 35 = .ok (.astore 6, 2) := by decide +kernel
theorem dX10_duel_37 : decode cX10_duel 37 = .ok (.aload 5, 2) := by decide +kernel
theorem dX10_duel_39 : decode cX10_duel 39 = .ok (.ifnull 13, 3) := by decide +kernel
theorem dX10_duel_42 : decode cX10_duel 42 = .ok (.aload 6, 2) := by decide +kernel
theorem dX10_duel_44 : decode cX10_duel 44 = .ok (.ifnull 8, 3) := by decide +kernel
theorem dX10_duel_47 : decode cX10_duel 47 = .ok (.iload_n 1, 1) := by decide +kernel
theorem dX10_duel_48 : decode cX10_duel 48 = .ok (.iload_n 2, 1) := by decide +kernel
theorem dX10_duel_49 : decode cX10_duel 49 = .ok (.if_icmp .ne 6, 3) := by decide +kernel
theorem dX10_duel_52 : decode cX10_duel 52 = .ok (.ldc 218, 2) := by decide +kernel
theorem dX10_duel_54 : decode cX10_duel 54 = .ok (.ireturn, 1) := by decide +kernel
theorem dX10_duel_55 : decode cX10_duel 55 = .ok (.iload_n 3, 1) := by decide +kernel
theorem dX10_duel_56 : decode cX10_duel 56 = .ok (.iconst 1, 1) := by decide +kernel
theorem dX10_duel_57 : decode cX10_duel 57 = .ok (.iconst 2, 1) := by decide +kernel
theorem dX10_duel_58 : decode cX10_duel 58 = .ok (.invokestatic 102, 3) := by decide +kernel
theorem dX10_duel_61 : decode cX10_duel 61 = .ok (.ifCond .eq 13, 3) := by decide +kernel
theorem dX10_duel_64 : decode cX10_duel 64 = .ok (.iload 4, 2) := by decide +kernel
theorem dX10_duel_66 : decode cX10_duel 66 = .ok (.iconst 0, 1) := by decide +kernel
theorem dX10_duel_67 : decode cX10_duel 67 = .ok (.iconst 1, 1) := by decide +kernel
theorem dX10_duel_68 : decode cX10_duel 68 = .ok (.invokestatic 102, 3) := by decide +kernel
theorem dX10_duel_71 : decode cX10_duel 71 = .ok (.ifCond .ne 6, 3) := by decide +kernel
theorem dX10_duel_74 : decode cX10_duel 74 = .ok (.ldc 219, 2) := by decide +kernel
theorem dX10_duel_76 : decode cX10_duel 76 = .ok (.ireturn, 1) := by decide +kernel
theorem dX10_duel_77 : decode cX10_duel 77 = .ok (.aload_n 0, 1) := by decide +kernel
theorem dX10_duel_78 : decode cX10_duel 78 = .ok (.getfield 78, 3) := by decide +kernel
theorem dX10_duel_81 : decode cX10_duel 81 = .ok (.aload 5, 2) := by decide +kernel
theorem dX10_duel_83 : decode cX10_duel 83 = .ok (.aload 6, 2) := by decide +kernel
theorem dX10_duel_85 : decode cX10_duel 85 = .ok (.iload_n 3, 1) := by decide +kernel
theorem dX10_duel_86 : decode cX10_duel 86 = .ok (.invokevirtual 220, 3) := by decide +kernel
theorem dX10_duel_89 : decode cX10_duel 89 = .ok (.istore 7, 2) := by decide +kernel
theorem dX10_duel_91 : decode cX10_duel 91 = .ok (.iload 4, 2) := by decide +kernel
theorem dX10_duel_93 : decode cX10_duel 93 = .ok (.ifCond .ne 8, 3) := by decide +kernel
theorem dX10_duel_96 : decode cX10_duel 96 = .ok (.iload 7, 2) := by decide +kernel
theorem dX10_duel_98 : decode cX10_duel 98 = .ok (.goto 10, 3) := by decide +kernel
theorem dX10_duel_101 : decode cX10_duel 101 = .ok (.aload_n 0, 1) := by decide +kernel
theorem dX10_duel_102 : decode cX10_duel 102 = .ok (.getfield 78, 3) := by decide +kernel
theorem dX10_duel_105 : decode cX10_duel 105 = .ok (.getfield 224, 3) := by decide +kernel
theorem dX10_duel_108 : decode cX10_duel 108 = .ok (.ireturn, 1) := by decide +kernel
theorem dX10_fewest_0 : decode cX10_fewest 0 = .ok (.aload_n 0, 1) := by decide +kernel
theorem dX10_fewest_1 : decode cX10_fewest 1 = .ok (.getfield 68, 3) := by decide +kernel
theorem dX10_fewest_4 : decode cX10_fewest 4 = .ok (.iload_n 1, 1) := by decide +kernel
theorem dX10_fewest_5 : decode cX10_fewest 5 = .ok (.invokevirtual 120, 3) := by decide +kernel
theorem dX10_fewest_8 : decode cX10_fewest 8 = .ok (.astore_n 3, 1) := by decide +kernel
theorem dX10_fewest_9 : decode cX10_fewest 9 = .ok (.aload_n 0, 1) := by decide +kernel
theorem dX10_fewest_10 : decode cX10_fewest 10 = .ok (.getfield 68, 3) := by decide +kernel
theorem dX10_fewest_13 : decode cX10_fewest 13 = .ok (.iload_n 2, 1) := by decide +kernel
theorem dX10_fewest_14 : decode cX10_fewest 14 = .ok (.invokevirtual 124, 3) := by decide +kernel
theorem dX10_fewest_17 : decode cX10_fewest 17 = .ok (.astore 4, 2) := by decide +kernel
theorem dX10_fewest_19 : decode cX10_fewest 19 = .ok (.aload_n 3, 1) := by decide +kernel
theorem dX10_fewest_20 : decode cX10_fewest 20 = .ok (.ifnull 8, 3) := by decide +kernel
theorem dX10_fewest_23 : decode cX10_fewest 23 = .ok (.aload 4, 2) := by decide +kernel
theorem dX10_fewest_25 : decode cX10_fewest 25 = .ok (.ifnonnull 6, 3) := by decide +kernel
theorem dX10_fewest_28 : decode cX10_fewest 28 = .ok (.bipush (-5), 2) := by decide +kernel
theorem dX10_fewest_30 : decode cX10_fewest 30 = .ok (.ireturn, 1) := by decide +kernel
theorem dX10_fewest_31 : decode cX10_fewest 31 = .ok (.aload_n 0, 1) := by decide +kernel
theorem dX10_fewest_32 : decode cX10_fewest 32 = .ok (.getfield 32, 3) := by decide +kernel
theorem dX10_fewest_35 : decode cX10_fewest 35 = .ok (.aload_n 3, 1) := by decide +kernel
theorem dX10_fewest_36 : decode cX10_fewest 36 = .ok (.aload 4, 2) := by decide +kernel
theorem dX10_fewest_38 : decode cX10_fewest 38 = .ok (.invokevirtual 169, 3) := by decide +kernel
theorem dX10_fewest_41 : decode cX10_fewest 41 = .ok (.aload 4, 2) := by decide +kernel
theorem dX10_fewest_43 : decode cX10_fewest 43 = .ok (.getfield 227, 3) := by decide +kernel
theorem dX10_fewest_46 : decode cX10_fewest 46 = .ok (.invokevirtual 230, 3) := by decide +kernel
theorem dX10_fewest_49 : decode cX10_fewest 49 = .ok (.ireturn, 1) := by decide +kernel
theorem dX10_soonest_0 : decode cX10_soonest 0 = .ok (.aload_n 0, 1) := by decide +kernel
theorem dX10_soonest_1 : decode cX10_soonest 1 = .ok (.getfield 68, 3) := by decide +kernel
theorem dX10_soonest_4 : decode cX10_soonest 4 = .ok (.iload_n 1, 1) := by decide +kernel
theorem dX10_soonest_5 : decode cX10_soonest 5 = .ok (.invokevirtual 124, 3) := by decide +kernel
theorem dX10_soonest_8 : decode cX10_soonest 8 = .ok (.astore_n 3, 1) := by decide +kernel
theorem dX10_soonest_9 : decode cX10_soonest 9 = .ok (.aload_n 3, 1) := by decide +kernel
theorem dX10_soonest_10 : decode cX10_soonest 10 = .ok (.ifnonnull 6, 3) := by decide +kernel
theorem dX10_soonest_13 : decode cX10_soonest 13 = .ok (.bipush (-5), 2) := by decide +kernel
theorem dX10_soonest_15 : decode cX10_soonest 15 = .ok (.ireturn, 1) := by decide +kernel
theorem dX10_soonest_16 : decode cX10_soonest 16 = .ok (.iload_n 2, 1) := by decide +kernel
theorem dX10_soonest_17 : decode cX10_soonest 17 = .ok (.iconst 0, 1) := by decide +kernel
theorem dX10_soonest_18 : decode cX10_soonest 18 = .ok (.iconst 1, 1) := by decide +kernel
theorem dX10_soonest_19 : decode cX10_soonest 19 = .ok (.invokestatic 102, 3) := by decide +kernel
theorem dX10_soonest_22 : decode cX10_soonest 22 = .ok (.ifCond .ne 6, 3) := by decide +kernel
theorem dX10_soonest_25 : decode cX10_soonest 25 = .ok (.bipush (-7), 2) := by decide +kernel
theorem dX10_soonest_27 : decode cX10_soonest 27 = .ok (.ireturn, 1) := by decide +kernel
theorem dX10_soonest_28 : decode cX10_soonest 28 = .ok (.iconst (-1), 1) := by decide +kernel
theorem dX10_soonest_29 : decode cX10_soonest 29 = .ok (.istore 4, 2) := by decide +kernel
theorem dX10_soonest_31 : decode cX10_soonest 31 = .ok (.iconst (-1), 1) := by decide +kernel
theorem dX10_soonest_32 : decode cX10_soonest 32 = .ok (.istore 5, 2) := by decide +kernel
theorem dX10_soonest_34 : decode cX10_soonest 34 = .ok (.iconst 0, 1) := by decide +kernel
theorem dX10_soonest_35 : decode cX10_soonest 35 = .ok (.istore 6, 2) := by decide +kernel
theorem dX10_soonest_37 : decode cX10_soonest 37 = .ok (.iload 6, 2) := by decide +kernel
theorem dX10_soonest_39 : decode cX10_soonest 39 = .ok (.aload_n 0, 1) := by decide +kernel
theorem dX10_soonest_40 : decode cX10_soonest 40 = .ok (.getfield 68, 3) := by decide +kernel
theorem dX10_soonest_43 : decode cX10_soonest 43 = .ok (.getfield 83, 3) := by decide +kernel
theorem dX10_soonest_46 : decode cX10_soonest 46 = .ok (.if_icmp .ge 61, 3) := by decide +kernel
theorem dX10_soonest_49 : decode cX10_soonest 49 = .ok (.aload_n 0, 1) := by decide +kernel
theorem dX10_soonest_50 : decode cX10_soonest 50 = .ok (.getfield 32, 3) := by decide +kernel
theorem dX10_soonest_53 : decode cX10_soonest 53 = .ok (.aload_n 0, 1) := by decide +kernel
theorem dX10_soonest_54 : decode cX10_soonest 54 = .ok (.getfield 68, 3) := by decide +kernel
theorem dX10_soonest_57 : decode cX10_soonest 57 = .ok (.getfield 233, 3) := by decide +kernel
theorem dX10_soonest_60 : decode cX10_soonest 60 = .ok (.iload 6, 2) := by decide +kernel
theorem dX10_soonest_62 : decode cX10_soonest 62 = .ok (.aaload, 1) := by decide +kernel
theorem dX10_soonest_63 : decode cX10_soonest 63 = .ok (.aload_n 3, 1) := by decide +kernel
theorem dX10_soonest_64 : decode cX10_soonest 64 = .ok (.invokevirtual 169, 3) := by decide +kernel
theorem dX10_soonest_67 : decode cX10_soonest 67 = .ok (.aload_n 3, 1) := by decide +kernel
theorem dX10_soonest_68 : decode cX10_soonest 68 = .ok (.getfield 227, 3) := by decide +kernel
theorem dX10_soonest_71 : decode cX10_soonest 71 = .ok (.invokevirtual 230, 3) := by decide +kernel
theorem dX10_soonest_74 : decode cX10_soonest 74 = .ok (.istore 7, 2) := by decide +kernel
theorem dX10_soonest_76 : decode cX10_soonest 76 = .ok (.iload 7, 2) := by decide +kernel
theorem dX10_soonest_78 : decode cX10_soonest 78 = .ok (.ifCond .lt 23, 3) := by decide +kernel
theorem dX10_soonest_81 : decode cX10_soonest 81 = .ok (.iload 4, 2) := by decide +kernel
theorem dX10_soonest_83 : decode cX10_soonest 83 = .ok (.ifCond .lt 10, 3) := by decide +kernel
theorem dX10_soonest_86 : decode cX10_soonest 86 = .ok (.iload 7, 2) := by decide +kernel
theorem dX10_soonest_88 : decode cX10_soonest 88 = .ok (.iload 5, 2) := by decide +kernel
theorem dX10_soonest_90 : decode cX10_soonest 90 = .ok (.if_icmp .ge 11, 3) := by decide +kernel
theorem dX10_soonest_93 : decode cX10_soonest 93 = .ok (.iload 6, 2) := by decide +kernel
theorem dX10_soonest_95 : decode cX10_soonest 95 = .ok (.istore 4, 2) := by decide +kernel
theorem dX10_soonest_97 : decode cX10_soonest 97 = .ok (.iload 7, 2) := by decide +kernel
theorem dX10_soonest_99 : decode cX10_soonest 99 = .ok (.istore 5, 2) := by decide +kernel
theorem dX10_soonest_101 : decode cX10_soonest 101 = .ok (.iinc 6 1, 3) := by decide +kernel
theorem dX10_soonest_104 : decode cX10_soonest 104 = .ok (.goto (-67), 3) := by decide +kernel
theorem dX10_soonest_107 : decode cX10_soonest 107 = .ok (.iload_n 2, 1) := by decide +kernel
theorem dX10_soonest_108 : decode cX10_soonest 108 = .ok (.ifCond .ne 8, 3) := by decide +kernel
theorem dX10_soonest_111 : decode cX10_soonest 111 = .ok (.iload 4, 2) := by decide +kernel
theorem dX10_soonest_113 : decode cX10_soonest 113 = .ok (.goto 5, 3) := by decide +kernel
theorem dX10_soonest_116 : decode cX10_soonest 116 = .ok (.iload 5, 2) := by decide +kernel
theorem dX10_soonest_118 : decode cX10_soonest 118 = .ok (.ireturn, 1) := by decide +kernel
theorem dX10_hire_0 : decode cX10_hire 0 = .ok (.aload_n 0, 1) := by decide +kernel
theorem dX10_hire_1 : decode cX10_hire 1 = .ok (.getfield 68, 3) := by decide +kernel
theorem dX10_hire_4 : decode cX10_hire 4 = .ok (.iload_n 1, 1) := by decide +kernel
theorem dX10_hire_5 : decode cX10_hire 5 = .ok (.invokevirtual 120, 3) := by decide +kernel
theorem dX10_hire_8 : decode cX10_hire 8 = .ok (.astore_n 3, 1) := by decide +kernel
theorem dX10_hire_9 : decode cX10_hire 9 = .ok (.aload_n 3, 1) := by decide +kernel
theorem dX10_hire_10 : decode cX10_hire 10 = .ok (.ifnonnull 6, 3) := by decide +kernel
theorem dX10_hire_13 : decode cX10_hire 13 = .ok (.bipush (-5), 2) := by decide +kernel
theorem dX10_hire_15 : decode cX10_hire 15 = .ok (.ireturn, 1) := by decide +kernel
theorem dX10_hire_16 : decode cX10_hire 16 = .ok (.iload_n 2, 1) := by decide +kernel
theorem dX10_hire_17 : decode cX10_hire 17 = .ok (.iconst 0, 1) := by decide +kernel
theorem dX10_hire_18 : decode cX10_hire 18 = .ok (.iconst 1, 1) := by decide +kernel
theorem dX10_hire_19 : decode cX10_hire 19 = .ok (.invokestatic 102, 3) := by decide +kernel
theorem dX10_hire_22 : decode cX10_hire 22 = .ok (.ifCond .ne 6, 3) := by decide +kernel
theorem dX10_hire_25 : decode cX10_hire 25 = .ok (.bipush (-7), 2) := by decide +kernel
theorem dX10_hire_27 : decode cX10_hire 27 = .ok (.ireturn, 1) := by decide +kernel
theorem dX10_hire_28 : decode cX10_hire 28 = .ok (.aload_n 0, 1) := by decide +kernel
theorem dX10_hire_29 : decode cX10_hire 29 = .ok (.getfield 25, 3) := by decide +kernel
theorem dX10_hire_32 : decode cX10_hire 32 = .ok (.aload_n 0, 1) := by decide +kernel
theorem dX10_hire_33 : decode cX10_hire 33 = .ok (.getfield 68, 3) := by decide +kernel
theorem dX10_hire_36 : decode cX10_hire 36 = .ok (.aload_n 3, 1) := by decide +kernel
theorem dX10_hire_37 : decode cX10_hire 37 = .ok (.invokevirtual 237, 3) := by decide +kernel
theorem dX10_hire_40 : decode cX10_hire 40 = .ok (.istore 4, 2) := by decide +kernel
theorem dX10_hire_42 : decode cX10_hire 42 = .ok (.iload_n 2, 1) := by decide +kernel
theorem dX10_hire_43 : decode cX10_hire 43 = .ok (.ifCond .ne 8, 3) := by decide +kernel
theorem dX10_hire_46 : decode cX10_hire 46 = .ok (.iload 4, 2) := by decide +kernel
theorem dX10_hire_48 : decode cX10_hire 48 = .ok (.goto 10, 3) := by decide +kernel
theorem dX10_hire_51 : decode cX10_hire 51 = .ok (.aload_n 0, 1) := by decide +kernel
theorem dX10_hire_52 : decode cX10_hire 52 = .ok (.getfield 25, 3) := by decide +kernel
theorem dX10_hire_55 : decode cX10_hire 55 = .ok (.getfield 241, 3) := by decide +kernel
theorem dX10_hire_58 : decode cX10_hire 58 = .ok (.ireturn, 1) := by decide +kernel
theorem dX10_whose_0 : decode cX10_whose 0 = .ok (.aload_n 0, 1) := by decide +kernel
theorem dX10_whose_1 : decode cX10_whose 1 = .ok (.getfield 68, 3) := by decide +kernel
theorem dX10_whose_4 : decode cX10_whose 4 = .ok (.iload_n 1, 1) := by decide +kernel
theorem dX10_whose_5 : decode cX10_whose 5 = .ok (.invokevirtual 124, 3) := by decide +kernel
theorem dX10_whose_8 : decode cX10_whose 8 = .ok (.astore_n 3, 1) := by decide +kernel
theorem dX10_whose_9 : decode cX10_whose 9 = .ok (.aload_n 3, 1) := by decide +kernel
theorem dX10_whose_10 : decode cX10_whose 10 = .ok (.ifnonnull 6, 3) := by decide +kernel
theorem dX10_whose_13 : decode cX10_whose 13 = .ok (.bipush (-5), 2) := by decide +kernel
theorem dX10_whose_15 : decode cX10_whose 15 = .ok (.ireturn, 1) := by decide +kernel
theorem dX10_whose_16 : decode cX10_whose 16 = .ok (.aload_n 3, 1) := by decide +kernel
theorem dX10_whose_17 : decode cX10_whose 17 = .ok (.iload_n 2, 1) := by decide +kernel
theorem dX10_whose_18 : decode cX10_whose 18 = .ok (.invokestatic 244, 3) := by decide +kernel
theorem dX10_whose_21 : decode cX10_whose 21 = .ok (.ifCond .ne 6, 3) := by decide +kernel
theorem dX10_whose_24 : decode cX10_whose 24 = .ok (.bipush (-7), 2) := by decide +kernel
theorem dX10_whose_26 : decode cX10_whose 26 = .ok (.ireturn, 1) := by decide +kernel
theorem dX10_whose_27 : decode cX10_whose 27 = .ok (.iconst 0, 1) := by decide +kernel
theorem dX10_whose_28 : decode cX10_whose 28 = .ok (.istore 4, 2) := by decide +kernel
theorem dX10_whose_30 : decode cX10_whose 30 = .ok (.iconst 0, 1) := by decide +kernel
theorem dX10_whose_31 : decode cX10_whose 31 = .ok (.istore 5, 2) := by decide +kernel
theorem dX10_whose_33 : decode cX10_whose 33 = .ok (.iload 5, 2) := by decide +kernel
theorem dX10_whose_35 : decode cX10_whose 35 = .ok (.aload_n 0, 1) := by decide +kernel
theorem dX10_whose_36 : decode cX10_whose 36 = .ok (.getfield 68, 3) := by decide +kernel
theorem dX10_whose_39 : decode cX10_whose 39 = .ok (.getfield 83, 3) := by decide +kernel
theorem dX10_whose_42 : decode cX10_whose 42 = .ok (.if_icmp .ge 36, 3) := by decide +kernel
theorem dX10_whose_45 : decode cX10_whose 45 = .ok (.aload_n 0, 1) := by decide +kernel
theorem dX10_whose_46 : decode cX10_whose 46 = .ok (.getfield 68, 3) := by decide +kernel
theorem dX10_whose_49 : decode cX10_whose 49 = .ok (.getfield 233, 3) := by decide +kernel
theorem dX10_whose_52 : decode cX10_whose 52 = .ok (.iload 5, 2) := by decide +kernel
theorem dX10_whose_54 : decode cX10_whose 54 = .ok (.aaload, 1) := by decide +kernel
theorem dX10_whose_55 : decode cX10_whose 55 = .ok (.aload_n 3, 1) := by decide +kernel
theorem dX10_whose_56 : decode cX10_whose 56 = .ok (.iload_n 2, 1) := by decide +kernel
theorem dX10_whose_57 : decode cX10_whose 57 = .ok (.invokevirtual 248, 3) := by decide +kernel
theorem dX10_whose_60 : decode cX10_whose 60 = .ok (.ifCond .eq 12, 3) := by decide +kernel
theorem dX10_whose_63 : decode cX10_whose 63 = .ok (.iload 4, 2) := by decide +kernel
theorem dX10_whose_65 : decode cX10_whose 65 = .ok (.iconst 1, 1) := by decide +kernel
theorem dX10_whose_66 : decode cX10_whose 66 = .ok (.iload 5, 2) := by decide +kernel
theorem dX10_whose_68 : decode cX10_whose 68 = .ok (.ishl, 1) := by decide +kernel
theorem dX10_whose_69 : decode cX10_whose 69 = .ok (.ior, 1) := by decide +kernel
theorem dX10_whose_70 : decode cX10_whose 70 = .ok (.istore 4, 2) := by decide +kernel
theorem dX10_whose_72 : decode cX10_whose 72 = .ok (.iinc 5 1, 3) := by decide +kernel
theorem dX10_whose_75 : decode cX10_whose 75 = .ok (.goto (-42), 3) := by decide +kernel
theorem dX10_whose_78 : decode cX10_whose 78 = .ok (.iload 4, 2) := by decide +kernel
theorem dX10_whose_80 : decode cX10_whose 80 = .ok (.ireturn, 1) := by decide +kernel
theorem dX10_kinds_0 : decode cX10_kinds 0 = .ok (.aload_n 0, 1) := by decide +kernel
theorem dX10_kinds_1 : decode cX10_kinds 1 = .ok (.getfield 68, 3) := by decide +kernel
theorem dX10_kinds_4 : decode cX10_kinds 4 = .ok (.iload_n 1, 1) := by decide +kernel
theorem dX10_kinds_5 : decode cX10_kinds 5 = .ok (.invokevirtual 120, 3) := by decide +kernel
theorem dX10_kinds_8 : decode cX10_kinds 8 = .ok (.astore 5, 2) := by decide +kernel
theorem dX10_kinds_10 : decode cX10_kinds 10 = .ok (.aload_n 0, 1) := by decide +kernel
theorem dX10_kinds_11 : decode cX10_kinds 11 = .ok (.getfield 68, 3) := by decide +kernel
theorem dX10_kinds_14 : decode cX10_kinds 14 = .ok (.iload_n 2, 1) := by decide +kernel
theorem dX10_kinds_15 : decode cX10_kinds 15 = .ok (.invokevirtual 124, 3) := by decide +kernel
theorem dX10_kinds_18 : decode cX10_kinds 18 = .ok (.astore 6, 2) := by decide +kernel
theorem dX10_kinds_20 : decode cX10_kinds 20 = .ok (.aload 5, 2) := by decide +kernel
theorem dX10_kinds_22 : decode cX10_kinds 22 = .ok (.ifnonnull 6, 3) := by decide +kernel
theorem dX10_kinds_25 : decode cX10_kinds 25 = .ok (.bipush (-6), 2) := by decide +kernel
theorem dX10_kinds_27 : decode cX10_kinds 27 = .ok (.ireturn, 1) := by decide +kernel
theorem dX10_kinds_28 : decode cX10_kinds 28 = .ok (.aload 6, 2) := by decide +kernel
theorem dX10_kinds_30 : decode cX10_kinds 30 = .ok (.ifnonnull 6, 3) := by decide +kernel
theorem dX10_kinds_33 : decode cX10_kinds 33 = .ok (.bipush (-5), 2) := by decide +kernel
theorem dX10_kinds_35 : decode cX10_kinds 35 = .ok (.ireturn, 1) := by decide +kernel
theorem dX10_kinds_36 : decode cX10_kinds 36 = .ok (.aload 6, 2) := by decide +kernel
theorem dX10_kinds_38 : decode cX10_kinds 38 = .ok (.iload_n 3, 1) := by decide +kernel
theorem dX10_kinds_39 : decode cX10_kinds 39 = .ok (.invokestatic 244, 3) := by decide +kernel
theorem dX10_kinds_42 : decode cX10_kinds 42 = .ok (.ifCond .ne 6, 3) := by decide +kernel
theorem dX10_kinds_45 : decode cX10_kinds 45 = .ok (.bipush (-7), 2) := by decide +kernel
theorem dX10_kinds_47 : decode cX10_kinds 47 = .ok (.ireturn, 1) := by decide +kernel
theorem dX10_kinds_48 : decode cX10_kinds 48 = .ok (.iload 4, 2) := by decide +kernel
theorem dX10_kinds_50 : decode cX10_kinds 50 = .ok (.tableswitch 82 0 3 #[30, 43, 56, 69], 30) := by decide +kernel
theorem dX10_kinds_80 : decode cX10_kinds 80 = .ok (.aload_n 0, 1) := by decide +kernel
theorem dX10_kinds_81 : decode cX10_kinds 81 = .ok (.getfield 25, 3) := by decide +kernel
theorem dX10_kinds_84 : decode cX10_kinds 84 = .ok (.aload 5, 2) := by decide +kernel
theorem dX10_kinds_86 : decode cX10_kinds 86 = .ok (.aload 6, 2) := by decide +kernel
theorem dX10_kinds_88 : decode cX10_kinds 88 = .ok (.iload_n 3, 1) := by decide +kernel
theorem dX10_kinds_89 : decode cX10_kinds 89 = .ok (.invokevirtual 251, 3) := by decide +kernel
theorem dX10_kinds_92 : decode cX10_kinds 92 = .ok (.ireturn, 1) := by decide +kernel
theorem dX10_kinds_93 : decode cX10_kinds 93 = .ok (.aload_n 0, 1) := by decide +kernel
theorem dX10_kinds_94 : decode cX10_kinds 94 = .ok (.getfield 25, 3) := by decide +kernel
theorem dX10_kinds_97 : decode cX10_kinds 97 = .ok (.aload 5, 2) := by decide +kernel
theorem dX10_kinds_99 : decode cX10_kinds 99 = .ok (.aload 6, 2) := by decide +kernel
theorem dX10_kinds_101 : decode cX10_kinds 101 = .ok (.iload_n 3, 1) := by decide +kernel
theorem dX10_kinds_102 : decode cX10_kinds 102 = .ok (.invokevirtual 254, 3) := by decide +kernel
theorem dX10_kinds_105 : decode cX10_kinds 105 = .ok (.ireturn, 1) := by decide +kernel
theorem dX10_kinds_106 : decode cX10_kinds 106 = .ok (.aload_n 0, 1) := by decide +kernel
theorem dX10_kinds_107 : decode cX10_kinds 107 = .ok (.getfield 25, 3) := by decide +kernel
theorem dX10_kinds_110 : decode cX10_kinds 110 = .ok (.aload 5, 2) := by decide +kernel
theorem dX10_kinds_112 : decode cX10_kinds 112 = .ok (.aload 6, 2) := by decide +kernel
theorem dX10_kinds_114 : decode cX10_kinds 114 = .ok (.iload_n 3, 1) := by decide +kernel
theorem dX10_kinds_115 : decode cX10_kinds 115 = .ok (.invokevirtual 257, 3) := by decide +kernel
theorem dX10_kinds_118 : decode cX10_kinds 118 = .ok (.ireturn, 1) := by decide +kernel
theorem dX10_kinds_119 : decode cX10_kinds 119 = .ok (.aload_n 0, 1) := by decide +kernel
theorem dX10_kinds_120 : decode cX10_kinds 120 = .ok (.getfield 25, 3) := by decide +kernel
theorem dX10_kinds_123 : decode cX10_kinds 123 = .ok (.aload 5, 2) := by decide +kernel
theorem dX10_kinds_125 : decode cX10_kinds 125 = .ok (.aload 6, 2) := by decide +kernel
theorem dX10_kinds_127 : decode cX10_kinds 127 = .ok (.iload_n 3, 1) := by decide +kernel
theorem dX10_kinds_128 : decode cX10_kinds 128 = .ok (.invokevirtual 260, 3) := by decide +kernel
theorem dX10_kinds_131 : decode cX10_kinds 131 = .ok (.ireturn, 1) := by decide +kernel
theorem dX10_kinds_132 : decode cX10_kinds 132 = .ok (.bipush (-7), 2) := by decide +kernel
theorem dX10_kinds_134 : decode cX10_kinds 134 = .ok (.ireturn, 1) := by decide +kernel
theorem dX10_judge_0 : decode cX10_judge 0 = .ok (.aload_n 0, 1) := by decide +kernel
theorem dX10_judge_1 : decode cX10_judge 1 = .ok (.iload_n 1, 1) := by decide +kernel
theorem dX10_judge_2 : decode cX10_judge 2 = .ok (.invokevirtual 263, 3) := by decide +kernel
theorem dX10_judge_5 : decode cX10_judge 5 = .ok (.istore_n 2, 1) := by decide +kernel
theorem dX10_judge_6 : decode cX10_judge 6 = .ok (.iload_n 2, 1) := by decide +kernel
theorem dX10_judge_7 : decode cX10_judge 7 = .ok (.ifCond .eq 5, 3) := by decide +kernel
theorem dX10_judge_10 : decode cX10_judge 10 = .ok (.iload_n 2, 1) := by decide +kernel
theorem dX10_judge_11 : decode cX10_judge 11 = .ok (.ireturn, 1) := by decide +kernel
theorem dX10_judge_12 : decode cX10_judge 12 = .ok (.aload_n 0, 1) := by decide +kernel
theorem dX10_judge_13 : decode cX10_judge 13 = .ok (.getfield 78, 3) := by decide +kernel
theorem dX10_judge_16 : decode cX10_judge 16 = .ok (.aload_n 0, 1) := by decide +kernel
theorem dX10_judge_17 : decode cX10_judge 17 = .ok (.getfield 68, 3) := by decide +kernel
theorem dX10_judge_20 : decode cX10_judge 20 = .ok (.invokevirtual 201, 3) := by decide +kernel
theorem dX10_judge_23 : decode cX10_judge 23 = .ok (.aload_n 0, 1) := by decide +kernel
theorem dX10_judge_24 : decode cX10_judge 24 = .ok (.getfield 78, 3) := by decide +kernel
theorem dX10_judge_27 : decode cX10_judge 27 = .ok (.aload_n 0, 1) := by decide +kernel
theorem dX10_judge_28 : decode cX10_judge 28 = .ok (.getfield 38, 3) := by decide +kernel
theorem dX10_judge_31 : decode cX10_judge 31 = .ok (.iload_n 1, 1) := by decide +kernel
theorem dX10_judge_32 : decode cX10_judge 32 = .ok (.aaload, 1) := by decide +kernel
theorem dX10_judge_33 : decode cX10_judge 33 = .ok (.invokevirtual 266, 3) := by decide +kernel
theorem dX10_judge_36 : decode cX10_judge 36 = .ok (.ireturn, 1) := by decide +kernel
theorem dX10_ends_0 : decode cX10_ends 0 = .ok (.aload_n 0, 1) := by decide +kernel
theorem dX10_ends_1 : decode cX10_ends 1 = .ok (.iload_n 1, 1) := by decide +kernel
theorem dX10_ends_2 : decode cX10_ends 2 = .ok (.invokevirtual 263, 3) := by decide +kernel
theorem dX10_ends_5 : decode cX10_ends 5 = .ok (.istore 4, 2) := by decide +kernel
theorem dX10_ends_7 : decode cX10_ends 7 = .ok (.iload 4, 2) := by decide +kernel
theorem dX10_ends_9 : decode cX10_ends 9 = .ok (.ifCond .eq 6, 3) := by decide +kernel
theorem dX10_ends_12 : decode cX10_ends 12 = .ok (.iload 4, 2) := by decide +kernel
theorem dX10_ends_14 : decode cX10_ends 14 = .ok (.ireturn, 1) := by decide +kernel
theorem dX10_ends_15 : decode cX10_ends 15 = .ok (.iload_n 3, 1) := by decide +kernel
theorem dX10_ends_16 : decode cX10_ends 16 = .ok (.iconst 0, 1) := by decide +kernel
theorem dX10_ends_17 : decode cX10_ends 17 = .ok (.iconst 2, 1) := by decide +kernel
theorem dX10_ends_18 : decode cX10_ends 18 = .ok (.invokestatic 102, 3) := by decide +kernel
theorem dX10_ends_21 : decode cX10_ends 21 = .ok (.ifCond .ne 6, 3) := by decide +kernel
theorem dX10_ends_24 : decode cX10_ends 24 = .ok (.bipush (-7), 2) := by decide +kernel
theorem dX10_ends_26 : decode cX10_ends 26 = .ok (.ireturn, 1) := by decide +kernel
theorem dX10_ends_27 : decode cX10_ends 27 = .ok (.aload_n 0, 1) := by decide +kernel
theorem dX10_ends_28 : decode cX10_ends 28 = .ok (.getfield 78, 3) := by decide +kernel
theorem dX10_ends_31 : decode cX10_ends 31 = .ok (.aload_n 0, 1) := by decide +kernel
theorem dX10_ends_32 : decode cX10_ends 32 = .ok (.getfield 68, 3) := by decide +kernel
theorem dX10_ends_35 : decode cX10_ends 35 = .ok (.invokevirtual 201, 3) := by decide +kernel
theorem dX10_ends_38 : decode cX10_ends 38 = .ok (.aload_n 0, 1) := by decide +kernel
theorem dX10_ends_39 : decode cX10_ends 39 = .ok (.getfield 78, 3) := by decide +kernel
theorem dX10_ends_42 : decode cX10_ends 42 = .ok (.aload_n 0, 1) := by decide +kernel
theorem dX10_ends_43 : decode cX10_ends 43 = .ok (.getfield 38, 3) := by decide +kernel
theorem dX10_ends_46 : decode cX10_ends 46 = .ok (.iload_n 1, 1) := by decide +kernel
theorem dX10_ends_47 : decode cX10_ends 47 = .ok (.aaload, 1) := by decide +kernel
theorem dX10_ends_48 : decode cX10_ends 48 = .ok (.invokevirtual 266, 3) := by decide +kernel
theorem dX10_ends_51 : decode cX10_ends 51 = .ok (.pop, 1) := by decide +kernel
theorem dX10_ends_52 : decode cX10_ends 52 = .ok (.iload_n 3, 1) := by decide +kernel
theorem dX10_ends_53 : decode cX10_ends 53 = .ok (.iconst 2, 1) := by decide +kernel
theorem dX10_ends_54 : decode cX10_ends 54 = .ok (.if_icmp .ne 32, 3) := by decide +kernel
theorem dX10_ends_57 : decode cX10_ends 57 = .ok (.aload_n 0, 1) := by decide +kernel
theorem dX10_ends_58 : decode cX10_ends 58 = .ok (.getfield 78, 3) := by decide +kernel
theorem dX10_ends_61 : decode cX10_ends 61 = .ok (.getfield 215, 3) := by decide +kernel
theorem dX10_ends_64 : decode cX10_ends 64 = .ok (.iload_n 2, 1) := by decide +kernel
theorem dX10_ends_65 : decode cX10_ends 65 = .ok (.invokevirtual 124, 3) := by decide +kernel
theorem dX10_ends_68 : decode cX10_ends 68 = .ok (.astore 5, 2) := by decide +kernel
theorem dX10_ends_70 : decode cX10_ends 70 = .ok (.aload 5, 2) := by decide +kernel
theorem dX10_ends_72 : decode cX10_ends 72 = .ok (.ifnonnull 8, 3) := by decide +kernel
theorem dX10_ends_75 : decode cX10_ends 75 = .ok (.bipush (-5), 2) := by decide +kernel
theorem dX10_ends_77 : decode cX10_ends 77 = .ok (.goto 8, 3) := by decide +kernel
theorem dX10_ends_80 : decode cX10_ends 80 = .ok (.aload 5, 2) := by decide +kernel
theorem dX10_ends_82 : decode cX10_ends 82 = .ok (.getfield 227, 3) := by decide +kernel
theorem dX10_ends_85 : decode cX10_ends 85 = .ok (.ireturn, 1) := by decide +kernel
theorem dX10_ends_86 : decode cX10_ends 86 = .ok (.aload_n 0, 1) := by decide +kernel
theorem dX10_ends_87 : decode cX10_ends 87 = .ok (.getfield 78, 3) := by decide +kernel
theorem dX10_ends_90 : decode cX10_ends 90 = .ok (.getfield 215, 3) := by decide +kernel
theorem dX10_ends_93 : decode cX10_ends 93 = .ok (.iload_n 2, 1) := by decide +kernel
theorem dX10_ends_94 : decode cX10_ends 94 = .ok (.invokevirtual 120, 3) := by decide +kernel
theorem dX10_ends_97 : decode cX10_ends 97 = .ok (.astore 5, 2) := by decide +kernel
theorem dX10_ends_99 : decode cX10_ends 99 = .ok (.aload 5, 2) := by decide +kernel
theorem dX10_ends_101 : decode cX10_ends 101 = .ok (.ifnonnull 6, 3) := by decide +kernel
theorem dX10_ends_104 : decode cX10_ends 104 = .ok (.bipush (-5), 2) := by decide +kernel
theorem dX10_ends_106 : decode cX10_ends 106 = .ok (.ireturn, 1) := by decide +kernel
theorem dX10_ends_107 : decode cX10_ends 107 = .ok (.iload_n 3, 1) := by decide +kernel
theorem dX10_ends_108 : decode cX10_ends 108 = .ok (.ifCond .ne 11, 3) := by decide +kernel
theorem dX10_ends_111 : decode cX10_ends 111 = .ok (.aload 5, 2) := by decide +kernel
theorem dX10_ends_113 : decode cX10_ends 113 = .ok (.getfield 166, 3) := by decide +kernel
theorem dX10_ends_116 : decode cX10_ends 116 = .ok (.goto 8, 3) := by decide +kernel
theorem dX10_ends_119 : decode cX10_ends 119 = .ok (.aload 5, 2) := by decide +kernel
theorem dX10_ends_121 : decode cX10_ends 121 = .ok (.getfield 163, 3) := by decide +kernel
theorem dX10_ends_124 : decode cX10_ends 124 = .ok (.ireturn, 1) := by decide +kernel
theorem dX10_laws_0 : decode cX10_laws 0 = .ok (.aload_n 0, 1) := by decide +kernel
theorem dX10_laws_1 : decode cX10_laws 1 = .ok (.iload_n 1, 1) := by decide +kernel
theorem dX10_laws_2 : decode cX10_laws 2 = .ok (.invokevirtual 263, 3) := by decide +kernel
theorem dX10_laws_5 : decode cX10_laws 5 = .ok (.istore_n 2, 1) := by decide +kernel
theorem dX10_laws_6 : decode cX10_laws 6 = .ok (.iload_n 2, 1) := by decide +kernel
theorem dX10_laws_7 : decode cX10_laws 7 = .ok (.ifCond .eq 5, 3) := by decide +kernel
theorem dX10_laws_10 : decode cX10_laws 10 = .ok (.iload_n 2, 1) := by decide +kernel
theorem dX10_laws_11 : decode cX10_laws 11 = .ok (.ireturn, 1) := by decide +kernel
theorem dX10_laws_12 : decode cX10_laws 12 = .ok (.iconst 0, 1) := by decide +kernel
theorem dX10_laws_13 : decode cX10_laws 13 = .ok (.istore_n 3, 1) := by decide +kernel
theorem dX10_laws_14 : decode cX10_laws 14 = .ok (.iconst 0, 1) := by decide +kernel
theorem dX10_laws_15 : decode cX10_laws 15 = .ok (.istore 4, 2) := by decide +kernel
theorem dX10_laws_17 : decode cX10_laws 17 = .ok (.iload 4, 2) := by decide +kernel
theorem dX10_laws_19 : decode cX10_laws 19 = .ok (.aload_n 0, 1) := by decide +kernel
theorem dX10_laws_20 : decode cX10_laws 20 = .ok (.getfield 59, 3) := by decide +kernel
theorem dX10_laws_23 : decode cX10_laws 23 = .ok (.if_icmp .ge 61, 3) := by decide +kernel
theorem dX10_laws_26 : decode cX10_laws 26 = .ok (.aload_n 0, 1) := by decide +kernel
theorem dX10_laws_27 : decode cX10_laws 27 = .ok (.getfield 78, 3) := by decide +kernel
theorem dX10_laws_30 : decode cX10_laws 30 = .ok (.aload_n 0, 1) := by decide +kernel
theorem dX10_laws_31 : decode cX10_laws 31 = .ok (.getfield 68, 3) := by decide +kernel
theorem dX10_laws_34 : decode cX10_laws 34 = .ok (.invokevirtual 201, 3) := by decide +kernel
theorem dX10_laws_37 : decode cX10_laws 37 = .ok (.aload_n 0, 1) := by decide +kernel
theorem dX10_laws_38 : decode cX10_laws 38 = .ok (.getfield 78, 3) := by decide +kernel
theorem dX10_laws_41 : decode cX10_laws 41 = .ok (.getfield 215, 3) := by decide +kernel
theorem dX10_laws_44 : decode cX10_laws 44 = .ok (.aload_n 0, 1) := by decide +kernel
theorem dX10_laws_45 : decode cX10_laws 45 = .ok (.getfield 18, 3) := by decide +kernel
theorem dX10_laws_48 : decode cX10_laws 48 = .ok (.iload 4, 2) := by decide +kernel
theorem dX10_laws_50 : decode cX10_laws 50 = .ok (.aaload, 1) := by decide +kernel
theorem dX10_laws_51 : decode cX10_laws 51 = .ok (.putfield 92, 3) := by decide +kernel
theorem dX10_laws_54 : decode cX10_laws 54 = .ok (.aload_n 0, 1) := by decide +kernel
theorem dX10_laws_55 : decode cX10_laws 55 = .ok (.getfield 78, 3) := by decide +kernel
theorem dX10_laws_58 : decode cX10_laws 58 = .ok (.aload_n 0, 1) := by decide +kernel
theorem dX10_laws_59 : decode cX10_laws 59 = .ok (.getfield 38, 3) := by decide +kernel
theorem dX10_laws_62 : decode cX10_laws 62 = .ok (.iload_n 1, 1) := by decide +kernel
theorem dX10_laws_63 : decode cX10_laws 63 = .ok (.aaload, 1) := by decide +kernel
theorem dX10_laws_64 : decode cX10_laws 64 = .ok (.invokevirtual 266, 3) := by decide +kernel
theorem dX10_laws_67 : decode cX10_laws 67 = .ok (.iconst (-1), 1) := by decide +kernel
theorem dX10_laws_68 : decode cX10_laws 68 = .ok (.if_icmp .ne 10, 3) := by decide +kernel
theorem dX10_laws_71 : decode cX10_laws 71 = .ok (.iload_n 3, 1) := by decide +kernel
theorem dX10_laws_72 : decode cX10_laws 72 = .ok (.iconst 1, 1) := by decide +kernel
theorem dX10_laws_73 : decode cX10_laws 73 = .ok (.iload 4, 2) := by decide +kernel
theorem dX10_laws_75 : decode cX10_laws 75 = .ok (.ishl, 1) := by decide +kernel
theorem dX10_laws_76 : decode cX10_laws 76 = .ok (.ior, 1) := by decide +kernel
theorem dX10_laws_77 : decode cX10_laws 77 = .ok (.istore_n 3, 1) := by decide +kernel
theorem dX10_laws_78 : decode cX10_laws 78 = .ok (.iinc 4 1, 3) := by decide +kernel
theorem dX10_laws_81 : decode cX10_laws 81 = .ok (.goto (-64), 3) := by decide +kernel
theorem dX10_laws_84 : decode cX10_laws 84 = .ok (.iload_n 3, 1) := by decide +kernel
theorem dX10_laws_85 : decode cX10_laws 85 = .ok (.ireturn, 1) := by decide +kernel
theorem dX10_film_0 : decode cX10_film 0 = .ok (.aload_n 0, 1) := by decide +kernel
theorem dX10_film_1 : decode cX10_film 1 = .ok (.iload_n 1, 1) := by decide +kernel
theorem dX10_film_2 : decode cX10_film 2 = .ok (.invokevirtual 270, 3) := by decide +kernel
theorem dX10_film_5 : decode cX10_film 5 = .ok (.astore_n 3, 1) := by decide +kernel
theorem dX10_film_6 : decode cX10_film 6 = .ok (.aload_n 3, 1) := by decide +kernel
theorem dX10_film_7 : decode cX10_film 7 = .ok (.ifnull 13, 3) := by decide +kernel
theorem dX10_film_10 : decode cX10_film 10 = .ok (.iload_n 2, 1) := by decide +kernel
theorem dX10_film_11 : decode cX10_film 11 = .ok (.iconst 0, 1) := by decide +kernel
theorem dX10_film_12 : decode cX10_film 12 = .ok (.bipush 13, 2) := by decide +kernel
theorem dX10_film_14 : decode cX10_film 14 = .ok (.invokestatic 102, 3) := by decide +kernel
theorem dX10_film_17 : decode cX10_film 17 = .ok (.ifCond .ne 6, 3) := by decide +kernel
theorem dX10_film_20 : decode cX10_film 20 = .ok (.bipush (-2), 2) := by decide +kernel
theorem dX10_film_22 : decode cX10_film 22 = .ok (.ireturn, 1) := by decide +kernel
theorem dX10_film_23 : decode cX10_film 23 = .ok (.aload_n 0, 1) := by decide +kernel
theorem dX10_film_24 : decode cX10_film 24 = .ok (.getfield 78, 3) := by decide +kernel
theorem dX10_film_27 : decode cX10_film 27 = .ok (.aload_n 0, 1) := by decide +kernel
theorem dX10_film_28 : decode cX10_film 28 = .ok (.getfield 68, 3) := by decide +kernel
theorem dX10_film_31 : decode cX10_film 31 = .ok (.invokevirtual 201, 3) := by decide +kernel
theorem dX10_film_34 : decode cX10_film 34 = .ok (.aload_n 0, 1) := by decide +kernel
theorem dX10_film_35 : decode cX10_film 35 = .ok (.getfield 78, 3) := by decide +kernel
theorem dX10_film_38 : decode cX10_film 38 = .ok (.iload_n 2, 1) := by decide +kernel
theorem dX10_film_39 : decode cX10_film 39 = .ok (.aload_n 3, 1) := by decide +kernel
theorem dX10_film_40 : decode cX10_film 40 = .ok (.invokevirtual 274, 3) := by decide +kernel
theorem dX10_film_43 : decode cX10_film 43 = .ok (.ireturn, 1) := by decide +kernel
theorem dX10_drawn_0 : decode cX10_drawn 0 = .ok (.aload_n 0, 1) := by decide +kernel
theorem dX10_drawn_1 : decode cX10_drawn 1 = .ok (.getfield 78, 3) := by decide +kernel
theorem dX10_drawn_4 : decode cX10_drawn 4 = .ok (.aload_n 0, 1) := by decide +kernel
theorem dX10_drawn_5 : decode cX10_drawn 5 = .ok (.getfield 68, 3) := by decide +kernel
theorem dX10_drawn_8 : decode cX10_drawn 8 = .ok (.invokevirtual 201, 3) := by decide +kernel
theorem dX10_drawn_11 : decode cX10_drawn 11 = .ok (.aload_n 0, 1) := by decide +kernel
theorem dX10_drawn_12 : decode cX10_drawn 12 = .ok (.getfield 78, 3) := by decide +kernel
theorem dX10_drawn_15 : decode cX10_drawn 15 = .ok (.getfield 215, 3) := by decide +kernel
theorem dX10_drawn_18 : decode cX10_drawn 18 = .ok (.iload_n 3, 1) := by decide +kernel
theorem dX10_drawn_19 : decode cX10_drawn 19 = .ok (.invokevirtual 120, 3) := by decide +kernel
theorem dX10_drawn_22 : decode cX10_drawn 22 = .ok (.astore 5, 2) := by decide +kernel
theorem dX10_drawn_24 : decode cX10_drawn 24 = .ok (.aload 5, 2) := by decide +kernel
theorem dX10_drawn_26 : decode cX10_drawn 26 = .ok (.ifnonnull 6, 3) := by decide +kernel
theorem dX10_drawn_29 : decode cX10_drawn 29 = .ok (.bipush (-5), 2) := by decide +kernel
theorem dX10_drawn_31 : decode cX10_drawn 31 = .ok (.ireturn, 1) := by decide +kernel
theorem dX10_drawn_32 : decode cX10_drawn 32 = .ok (.iload_n 1, 1) := by decide +kernel
theorem dX10_drawn_33 : decode cX10_drawn 33 = .ok (.iconst 0, 1) := by decide +kernel
theorem dX10_drawn_34 : decode cX10_drawn 34 = .ok (.ldc_w 278, 3) := by decide +kernel
theorem dX10_drawn_37 : decode cX10_drawn 37 = .ok (.invokestatic 102, 3) := by decide +kernel
theorem dX10_drawn_40 : decode cX10_drawn 40 = .ok (.ifCond .eq 23, 3) := by decide +kernel
theorem dX10_drawn_43 : decode cX10_drawn 43 = .ok (.iload_n 2, 1) := by decide +kernel
theorem dX10_drawn_44 : decode cX10_drawn 44 = .ok (.iconst 0, 1) := by decide +kernel
theorem dX10_drawn_45 : decode cX10_drawn 45 = .ok (.bipush 60, 2) := by decide +kernel
theorem dX10_drawn_47 : decode cX10_drawn 47 = .ok (.invokestatic 102, 3) := by decide +kernel
theorem dX10_drawn_50 : decode cX10_drawn 50 = .ok (.ifCond .eq 13, 3) := by decide +kernel
theorem dX10_drawn_53 : decode cX10_drawn 53 = .ok (.iload 4, 2) := by decide +kernel
theorem dX10_drawn_55 : decode cX10_drawn 55 = .ok (.iconst 0, 1) := by decide +kernel
theorem dX10_drawn_56 : decode cX10_drawn 56 = .ok (.iconst 1, 1) := by decide +kernel
theorem dX10_drawn_57 : decode cX10_drawn 57 = .ok (.invokestatic 102, 3) := by decide +kernel
theorem dX10_drawn_60 : decode cX10_drawn 60 = .ok (.ifCond .ne 6, 3) := by decide +kernel
theorem dX10_drawn_63 : decode cX10_drawn 63 = .ok (.bipush (-7), 2) := by decide +kernel
theorem dX10_drawn_65 : decode cX10_drawn 65 = .ok (.ireturn, 1) := by decide +kernel
theorem dX10_drawn_66 : decode cX10_drawn 66 = .ok (.aload_n 0, 1) := by decide +kernel
theorem dX10_drawn_67 : decode cX10_drawn 67 = .ok (.getfield 68, 3) := by decide +kernel
theorem dX10_drawn_70 : decode cX10_drawn 70 = .ok (.getfield 86, 3) := by decide +kernel
theorem dX10_drawn_73 : decode cX10_drawn 73 = .ok (.ifCond .ne 6, 3) := by decide +kernel
theorem dX10_drawn_76 : decode cX10_drawn 76 = .ok (.bipush (-3), 2) := by decide +kernel
theorem dX10_drawn_78 : decode cX10_drawn 78 = .ok (.ireturn, 1) := by decide +kernel
theorem dX10_drawn_79 : decode cX10_drawn 79 = .ok (.aload_n 0, 1) := by decide +kernel
theorem dX10_drawn_80 : decode cX10_drawn 80 = .ok (.getfield 78, 3) := by decide +kernel
theorem dX10_drawn_83 : decode cX10_drawn 83 = .ok (.iload_n 1, 1) := by decide +kernel
theorem dX10_drawn_84 : decode cX10_drawn 84 = .ok (.iload_n 2, 1) := by decide +kernel
theorem dX10_drawn_85 : decode cX10_drawn 85 = .ok (.invokevirtual 279, 3) := by decide +kernel
theorem dX10_drawn_88 : decode cX10_drawn 88 = .ok (.iload 4, 2) := by decide +kernel
theorem dX10_drawn_90 : decode cX10_drawn 90 = .ok (.ifCond .ne 11, 3) := by decide +kernel
theorem dX10_drawn_93 : decode cX10_drawn 93 = .ok (.aload 5, 2) := by decide +kernel
theorem dX10_drawn_95 : decode cX10_drawn 95 = .ok (.getfield 166, 3) := by decide +kernel
theorem dX10_drawn_98 : decode cX10_drawn 98 = .ok (.goto 8, 3) := by decide +kernel
theorem dX10_drawn_101 : decode cX10_drawn 101 = .ok (.aload 5, 2) := by decide +kernel
theorem dX10_drawn_103 : decode cX10_drawn 103 = .ok (.getfield 163, 3) := by decide +kernel
theorem dX10_drawn_106 : decode cX10_drawn 106 = .ok (.ireturn, 1) := by decide +kernel
theorem dX10_odds_0 : decode cX10_odds 0 = .ok (.aload_n 0, 1) := by decide +kernel
theorem dX10_odds_1 : decode cX10_odds 1 = .ok (.getfield 78, 3) := by decide +kernel
theorem dX10_odds_4 : decode cX10_odds 4 = .ok (.aload_n 0, 1) := by decide +kernel
theorem dX10_odds_5 : decode cX10_odds 5 = .ok (.getfield 68, 3) := by decide +kernel
theorem dX10_odds_8 : decode cX10_odds 8 = .ok (.invokevirtual 201, 3) := by decide +kernel
theorem dX10_odds_11 : decode cX10_odds 11 = .ok (.aload_n 0, 1) := by decide +kernel
theorem dX10_odds_12 : decode cX10_odds 12 = .ok (.getfield 78, 3) := by decide +kernel
theorem dX10_odds_15 : decode cX10_odds 15 = .ok (.getfield 215, 3) := by decide +kernel
theorem dX10_odds_18 : decode cX10_odds 18 = .ok (.iload_n 3, 1) := by decide +kernel
theorem dX10_odds_19 : decode cX10_odds 19 = .ok (.invokevirtual 120, 3) := by decide +kernel
theorem dX10_odds_22 : decode cX10_odds 22 = .ok (.astore 6, 2) := by decide +kernel
theorem dX10_odds_24 : decode cX10_odds 24 = .ok (.iload_n 1, 1) := by decide +kernel
theorem dX10_odds_25 : decode cX10_odds 25 = .ok (.iconst 0, 1) := by decide +kernel
theorem dX10_odds_26 : decode cX10_odds 26 = .ok (.ldc_w 278, 3) := by decide +kernel
theorem dX10_odds_29 : decode cX10_odds 29 = .ok (.invokestatic 102, 3) := by decide +kernel
theorem dX10_odds_32 : decode cX10_odds 32 = .ok (.ifCond .eq 44, 3) := by decide +kernel
theorem dX10_odds_35 : decode cX10_odds 35 = .ok (.iload_n 2, 1) := by decide +kernel
theorem dX10_odds_36 : decode cX10_odds 36 = .ok (.ifCond .lt 40, 3) := by decide +kernel
theorem dX10_odds_39 : decode cX10_odds 39 = .ok (.aload 6, 2) := by decide +kernel
theorem dX10_odds_41 : decode cX10_odds 41 = .ok (.ifnull 35, 3) := by decide +kernel
theorem dX10_odds_44 : decode cX10_odds 44 = .ok (.iload 4, 2) := by decide +kernel
theorem dX10_odds_46 : decode cX10_odds 46 = .ok (.iconst 0, 1) := by decide +kernel
theorem dX10_odds_47 : decode cX10_odds 47 = .ok (.sipush 9999, 3) := by decide +kernel
theorem dX10_odds_50 : decode cX10_odds 50 = .ok (.invokestatic 102, 3) := by decide +kernel
theorem dX10_odds_53 : decode cX10_odds 53 = .ok (.ifCond .eq 23, 3) := by decide +kernel
theorem dX10_odds_56 : decode cX10_odds 56 = .ok (.iload 5, 2) := by decide +kernel
theorem dX10_odds_58 : decode cX10_odds 58 = .ok (.iconst 0, 1) := by decide +kernel
theorem dX10_odds_59 : decode cX10_odds 59 = .ok (.iconst 1, 1) := by decide +kernel
theorem dX10_odds_60 : decode cX10_odds 60 = .ok (.invokestatic 102, 3) := by decide +kernel
theorem dX10_odds_63 : decode cX10_odds 63 = .ok (.ifCond .eq 13, 3) := by decide +kernel
theorem dX10_odds_66 : decode cX10_odds 66 = .ok (.aload_n 0, 1) := by decide +kernel
theorem dX10_odds_67 : decode cX10_odds 67 = .ok (.getfield 68, 3) := by decide +kernel
theorem dX10_odds_70 : decode cX10_odds 70 = .ok (.getfield 86, 3) := by decide +kernel
theorem dX10_odds_73 : decode cX10_odds 73 = .ok (.ifCond .ne 7, 3) := by decide +kernel
theorem dX10_odds_76 : decode cX10_odds 76 = .ok (.ldc2_w 282, 3) := by decide +kernel
theorem dX10_odds_79 : decode cX10_odds 79 = .ok (.lreturn, 1) := by decide +kernel
theorem dX10_odds_80 : decode cX10_odds 80 = .ok (.iload_n 2, 1) := by decide +kernel
theorem dX10_odds_81 : decode cX10_odds 81 = .ok (.bipush 100, 2) := by decide +kernel
theorem dX10_odds_83 : decode cX10_odds 83 = .ok (.idiv, 1) := by decide +kernel
theorem dX10_odds_84 : decode cX10_odds 84 = .ok (.istore 7, 2) := by decide +kernel
theorem dX10_odds_86 : decode cX10_odds 86 = .ok (.iload_n 2, 1) := by decide +kernel
theorem dX10_odds_87 : decode cX10_odds 87 = .ok (.bipush 100, 2) := by decide +kernel
theorem dX10_odds_89 : decode cX10_odds 89 = .ok (.irem, 1) := by decide +kernel
theorem dX10_odds_90 : decode cX10_odds 90 = .ok (.istore 8, 2) := by decide +kernel
theorem dX10_odds_92 : decode cX10_odds 92 = .ok (.iload 7, 2) := by decide +kernel
theorem dX10_odds_94 : decode cX10_odds 94 = .ok (.bipush 60, 2) := by decide +kernel
theorem dX10_odds_96 : decode cX10_odds 96 = .ok (.if_icmp .gt 14, 3) := by decide +kernel
theorem dX10_odds_99 : decode cX10_odds 99 = .ok (.iload 8, 2) := by decide +kernel
theorem dX10_odds_101 : decode cX10_odds 101 = .ok (.iconst 1, 1) := by decide +kernel
theorem dX10_odds_102 : decode cX10_odds 102 = .ok (.bipush 40, 2) := by decide +kernel
theorem dX10_odds_104 : decode cX10_odds 104 = .ok (.invokestatic 102, 3) := by decide +kernel
theorem dX10_odds_107 : decode cX10_odds 107 = .ok (.ifCond .ne 7, 3) := by decide +kernel
theorem dX10_odds_110 : decode cX10_odds 110 = .ok (.ldc2_w 282, 3) := by decide +kernel
theorem dX10_odds_113 : decode cX10_odds 113 = .ok (.lreturn, 1) := by decide +kernel
theorem dX10_odds_114 : decode cX10_odds 114 = .ok (.iconst 0, 1) := by decide +kernel
theorem dX10_odds_115 : decode cX10_odds 115 = .ok (.istore 9, 2) := by decide +kernel
theorem dX10_odds_117 : decode cX10_odds 117 = .ok (.iconst 0, 1) := by decide +kernel
theorem dX10_odds_118 : decode cX10_odds 118 = .ok (.istore 10, 2) := by decide +kernel
theorem dX10_odds_120 : decode cX10_odds 120 = .ok (.iload 10, 2) := by decide +kernel
theorem dX10_odds_122 : decode cX10_odds 122 = .ok (.iload 8, 2) := by decide +kernel
theorem dX10_odds_124 : decode cX10_odds 124 = .ok (.if_icmp .ge 46, 3) := by decide +kernel
theorem dX10_odds_127 : decode cX10_odds 127 = .ok (.aload_n 0, 1) := by decide +kernel
theorem dX10_odds_128 : decode cX10_odds 128 = .ok (.getfield 78, 3) := by decide +kernel
theorem dX10_odds_131 : decode cX10_odds 131 = .ok (.aload_n 0, 1) := by decide +kernel
theorem dX10_odds_132 : decode cX10_odds 132 = .ok (.getfield 68, 3) := by decide +kernel
theorem dX10_odds_135 : decode cX10_odds 135 = .ok (.invokevirtual 201, 3) := by decide +kernel
theorem dX10_odds_138 : decode cX10_odds 138 = .ok (.aload_n 0, 1) := by decide +kernel
theorem dX10_odds_139 : decode cX10_odds 139 = .ok (.getfield 78, 3) := by decide +kernel
theorem dX10_odds_142 : decode cX10_odds 142 = .ok (.iload_n 1, 1) := by decide +kernel
theorem dX10_odds_143 : decode cX10_odds 143 = .ok (.iload 10, 2) := by decide +kernel
theorem dX10_odds_145 : decode cX10_odds 145 = .ok (.iadd, 1) := by decide +kernel
theorem dX10_odds_146 : decode cX10_odds 146 = .ok (.iload 7, 2) := by decide +kernel
theorem dX10_odds_148 : decode cX10_odds 148 = .ok (.invokevirtual 279, 3) := by decide +kernel
theorem dX10_odds_151 : decode cX10_odds 151 = .ok (.aload 6, 2) := by decide +kernel
theorem dX10_odds_153 : decode cX10_odds 153 = .ok (.getfield 166, 3) := by decide +kernel
theorem dX10_odds_156 : decode cX10_odds 156 = .ok (.iload 4, 2) := by decide +kernel
theorem dX10_odds_158 : decode cX10_odds 158 = .ok (.if_icmp .lt 6, 3) := by decide +kernel
theorem dX10_odds_161 : decode cX10_odds 161 = .ok (.iinc 9 1, 3) := by decide +kernel
theorem dX10_odds_164 : decode cX10_odds 164 = .ok (.iinc 10 1, 3) := by decide +kernel
theorem dX10_odds_167 : decode cX10_odds 167 = .ok (.goto (-47), 3) := by decide +kernel
theorem dX10_odds_170 : decode cX10_odds 170 = .ok (.iload 9, 2) := by decide +kernel
theorem dX10_odds_172 : decode cX10_odds 172 = .ok (.iload 8, 2) := by decide +kernel
theorem dX10_odds_174 : decode cX10_odds 174 = .ok (.invokestatic 284, 3) := by decide +kernel
theorem dX10_odds_177 : decode cX10_odds 177 = .ok (.istore 10, 2) := by decide +kernel
theorem dX10_odds_179 : decode cX10_odds 179 = .ok (.iload 5, 2) := by decide +kernel
theorem dX10_odds_181 : decode cX10_odds 181 = .ok (.ifCond .ne 12, 3) := by decide +kernel
theorem dX10_odds_184 : decode cX10_odds 184 = .ok (.iload 9, 2) := by decide +kernel
theorem dX10_odds_186 : decode cX10_odds 186 = .ok (.iload 10, 2) := by decide +kernel
theorem dX10_odds_188 : decode cX10_odds 188 = .ok (.idiv, 1) := by decide +kernel
theorem dX10_odds_189 : decode cX10_odds 189 = .ok (.i2l, 1) := by decide +kernel
theorem dX10_odds_190 : decode cX10_odds 190 = .ok (.goto 9, 3) := by decide +kernel
theorem dX10_odds_193 : decode cX10_odds 193 = .ok (.iload 8, 2) := by decide +kernel
theorem dX10_odds_195 : decode cX10_odds 195 = .ok (.iload 10, 2) := by decide +kernel
theorem dX10_odds_197 : decode cX10_odds 197 = .ok (.idiv, 1) := by decide +kernel
theorem dX10_odds_198 : decode cX10_odds 198 = .ok (.i2l, 1) := by decide +kernel
theorem dX10_odds_199 : decode cX10_odds 199 = .ok (.lreturn, 1) := by decide +kernel
theorem dX10_image_0 : decode cX10_image 0 = .ok (.aload_n 0, 1) := by decide +kernel
theorem dX10_image_1 : decode cX10_image 1 = .ok (.getfield 72, 3) := by decide +kernel
theorem dX10_image_4 : decode cX10_image 4 = .ok (.aload_n 0, 1) := by decide +kernel
theorem dX10_image_5 : decode cX10_image 5 = .ok (.getfield 68, 3) := by decide +kernel
theorem dX10_image_8 : decode cX10_image 8 = .ok (.invokevirtual 287, 3) := by decide +kernel
theorem dX10_image_11 : decode cX10_image 11 = .ok (.aload_n 0, 1) := by decide +kernel
theorem dX10_image_12 : decode cX10_image 12 = .ok (.iconst 1, 1) := by decide +kernel
theorem dX10_image_13 : decode cX10_image 13 = .ok (.putfield 290, 3) := by decide +kernel
theorem dX10_image_16 : decode cX10_image 16 = .ok (.aload_n 0, 1) := by decide +kernel
theorem dX10_image_17 : decode cX10_image 17 = .ok (.getfield 68, 3) := by decide +kernel
theorem dX10_image_20 : decode cX10_image 20 = .ok (.getfield 83, 3) := by decide +kernel
theorem dX10_image_23 : decode cX10_image 23 = .ok (.ireturn, 1) := by decide +kernel
theorem dX10_back_0 : decode cX10_back 0 = .ok (.aload_n 0, 1) := by decide +kernel
theorem dX10_back_1 : decode cX10_back 1 = .ok (.getfield 290, 3) := by decide +kernel
theorem dX10_back_4 : decode cX10_back 4 = .ok (.ifCond .ne 6, 3) := by decide +kernel
theorem dX10_back_7 : decode cX10_back 7 = .ok (.bipush (-3), 2) := by decide +kernel
theorem dX10_back_9 : decode cX10_back 9 = .ok (.ireturn, 1) := by decide +kernel
theorem dX10_back_10 : decode cX10_back 10 = .ok (.aload_n 0, 1) := by decide +kernel
theorem dX10_back_11 : decode cX10_back 11 = .ok (.getfield 68, 3) := by decide +kernel
theorem dX10_back_14 : decode cX10_back 14 = .ok (.aload_n 0, 1) := by decide +kernel
theorem dX10_back_15 : decode cX10_back 15 = .ok (.getfield 72, 3) := by decide +kernel
theorem dX10_back_18 : decode cX10_back 18 = .ok (.invokevirtual 287, 3) := by decide +kernel
theorem dX10_back_21 : decode cX10_back 21 = .ok (.aload_n 0, 1) := by decide +kernel
theorem dX10_back_22 : decode cX10_back 22 = .ok (.getfield 68, 3) := by decide +kernel
theorem dX10_back_25 : decode cX10_back 25 = .ok (.getfield 83, 3) := by decide +kernel
theorem dX10_back_28 : decode cX10_back 28 = .ok (.ireturn, 1) := by decide +kernel
theorem dX10_sheet_0 : decode cX10_sheet 0 = .ok (.aload_n 0, 1) := by decide +kernel
theorem dX10_sheet_1 : decode cX10_sheet 1 = .ok (.iload_n 1, 1) := by decide +kernel
theorem dX10_sheet_2 : decode cX10_sheet 2 = .ok (.invokevirtual 270, 3) := by decide +kernel
theorem dX10_sheet_5 : decode cX10_sheet 5 = .ok (.astore 4, 2) := by decide +kernel
theorem dX10_sheet_7 : decode cX10_sheet 7 = .ok (.aload 4, 2) := by decide +kernel
theorem dX10_sheet_9 : decode cX10_sheet 9 = .ok (.ifnull 12, 3) := by decide +kernel
theorem dX10_sheet_12 : decode cX10_sheet 12 = .ok (.iload_n 2, 1) := by decide +kernel
theorem dX10_sheet_13 : decode cX10_sheet 13 = .ok (.iconst (-1), 1) := by decide +kernel
theorem dX10_sheet_14 : decode cX10_sheet 14 = .ok (.iconst 2, 1) := by decide +kernel
theorem dX10_sheet_15 : decode cX10_sheet 15 = .ok (.invokestatic 102, 3) := by decide +kernel
theorem dX10_sheet_18 : decode cX10_sheet 18 = .ok (.ifCond .ne 6, 3) := by decide +kernel
theorem dX10_sheet_21 : decode cX10_sheet 21 = .ok (.bipush (-2), 2) := by decide +kernel
theorem dX10_sheet_23 : decode cX10_sheet 23 = .ok (.ireturn, 1) := by decide +kernel
theorem dX10_sheet_24 : decode cX10_sheet 24 = .ok (.iload_n 2, 1) := by decide +kernel
theorem dX10_sheet_25 : decode cX10_sheet 25 = .ok (.iconst (-1), 1) := by decide +kernel
theorem dX10_sheet_26 : decode cX10_sheet 26 = .ok (.if_icmp .ne 12, 3) := by decide +kernel
theorem dX10_sheet_29 : decode cX10_sheet 29 = .ok (.aload 4, 2) := by decide +kernel
theorem dX10_sheet_31 : decode cX10_sheet 31 = .ok (.iconst (-1), 1) := by decide +kernel
theorem dX10_sheet_32 : decode cX10_sheet 32 = .ok (.iconst 0, 1) := by decide +kernel
theorem dX10_sheet_33 : decode cX10_sheet 33 = .ok (.invokevirtual 294, 3) := by decide +kernel
theorem dX10_sheet_36 : decode cX10_sheet 36 = .ok (.iconst 1, 1) := by decide +kernel
theorem dX10_sheet_37 : decode cX10_sheet 37 = .ok (.ireturn, 1) := by decide +kernel
theorem dX10_sheet_38 : decode cX10_sheet 38 = .ok (.iload_n 3, 1) := by decide +kernel
theorem dX10_sheet_39 : decode cX10_sheet 39 = .ok (.bipush 40, 2) := by decide +kernel
theorem dX10_sheet_41 : decode cX10_sheet 41 = .ok (.if_icmp .le 6, 3) := by decide +kernel
theorem dX10_sheet_44 : decode cX10_sheet 44 = .ok (.bipush (-2), 2) := by decide +kernel
theorem dX10_sheet_46 : decode cX10_sheet 46 = .ok (.ireturn, 1) := by decide +kernel
theorem dX10_sheet_47 : decode cX10_sheet 47 = .ok (.iload_n 3, 1) := by decide +kernel
theorem dX10_sheet_48 : decode cX10_sheet 48 = .ok (.ifCond .ge 6, 3) := by decide +kernel
theorem dX10_sheet_51 : decode cX10_sheet 51 = .ok (.bipush (-14), 2) := by decide +kernel
theorem dX10_sheet_53 : decode cX10_sheet 53 = .ok (.ireturn, 1) := by decide +kernel
theorem dX10_sheet_54 : decode cX10_sheet 54 = .ok (.aload 4, 2) := by decide +kernel
theorem dX10_sheet_56 : decode cX10_sheet 56 = .ok (.iload_n 2, 1) := by decide +kernel
theorem dX10_sheet_57 : decode cX10_sheet 57 = .ok (.iload_n 3, 1) := by decide +kernel
theorem dX10_sheet_58 : decode cX10_sheet 58 = .ok (.invokevirtual 294, 3) := by decide +kernel
theorem dX10_sheet_61 : decode cX10_sheet 61 = .ok (.iconst 1, 1) := by decide +kernel
theorem dX10_sheet_62 : decode cX10_sheet 62 = .ok (.ireturn, 1) := by decide +kernel
theorem dX10_cell_0 : decode cX10_cell 0 = .ok (.aload_n 0, 1) := by decide +kernel
theorem dX10_cell_1 : decode cX10_cell 1 = .ok (.iload_n 1, 1) := by decide +kernel
theorem dX10_cell_2 : decode cX10_cell 2 = .ok (.invokevirtual 270, 3) := by decide +kernel
theorem dX10_cell_5 : decode cX10_cell 5 = .ok (.astore 4, 2) := by decide +kernel
theorem dX10_cell_7 : decode cX10_cell 7 = .ok (.aload 4, 2) := by decide +kernel
theorem dX10_cell_9 : decode cX10_cell 9 = .ok (.ifnonnull 6, 3) := by decide +kernel
theorem dX10_cell_12 : decode cX10_cell 12 = .ok (.bipush (-2), 2) := by decide +kernel
theorem dX10_cell_14 : decode cX10_cell 14 = .ok (.ireturn, 1) := by decide +kernel
theorem dX10_cell_15 : decode cX10_cell 15 = .ok (.aload 4, 2) := by decide +kernel
theorem dX10_cell_17 : decode cX10_cell 17 = .ok (.getfield 297, 3) := by decide +kernel
theorem dX10_cell_20 : decode cX10_cell 20 = .ok (.iconst (-1), 1) := by decide +kernel
theorem dX10_cell_21 : decode cX10_cell 21 = .ok (.if_icmp .ne 6, 3) := by decide +kernel
theorem dX10_cell_24 : decode cX10_cell 24 = .ok (.bipush (-11), 2) := by decide +kernel
theorem dX10_cell_26 : decode cX10_cell 26 = .ok (.ireturn, 1) := by decide +kernel
theorem dX10_cell_27 : decode cX10_cell 27 = .ok (.iload_n 2, 1) := by decide +kernel
theorem dX10_cell_28 : decode cX10_cell 28 = .ok (.iconst 0, 1) := by decide +kernel
theorem dX10_cell_29 : decode cX10_cell 29 = .ok (.aload 4, 2) := by decide +kernel
theorem dX10_cell_31 : decode cX10_cell 31 = .ok (.getfield 300, 3) := by decide +kernel
theorem dX10_cell_34 : decode cX10_cell 34 = .ok (.iconst 1, 1) := by decide +kernel
theorem dX10_cell_35 : decode cX10_cell 35 = .ok (.isub, 1) := by decide +kernel
theorem dX10_cell_36 : decode cX10_cell 36 = .ok (.invokestatic 102, 3) := by decide +kernel
theorem dX10_cell_39 : decode cX10_cell 39 = .ok (.ifCond .ne 6, 3) := by decide +kernel
theorem dX10_cell_42 : decode cX10_cell 42 = .ok (.bipush (-12), 2) := by decide +kernel
theorem dX10_cell_44 : decode cX10_cell 44 = .ok (.ireturn, 1) := by decide +kernel
theorem dX10_cell_45 : decode cX10_cell 45 = .ok (.aload 4, 2) := by decide +kernel
theorem dX10_cell_47 : decode cX10_cell 47 = .ok (.iload_n 2, 1) := by decide +kernel
theorem dX10_cell_48 : decode cX10_cell 48 = .ok (.iload_n 3, 1) := by decide +kernel
theorem dX10_cell_49 : decode cX10_cell 49 = .ok (.invokevirtual 302, 3) := by decide +kernel
theorem dX10_cell_52 : decode cX10_cell 52 = .ok (.iconst 1, 1) := by decide +kernel
theorem dX10_cell_53 : decode cX10_cell 53 = .ok (.ireturn, 1) := by decide +kernel
theorem dX10_copy_0 : decode cX10_copy 0 = .ok (.aload_n 0, 1) := by decide +kernel
theorem dX10_copy_1 : decode cX10_copy 1 = .ok (.iload_n 1, 1) := by decide +kernel
theorem dX10_copy_2 : decode cX10_copy 2 = .ok (.invokevirtual 270, 3) := by decide +kernel
theorem dX10_copy_5 : decode cX10_copy 5 = .ok (.astore 6, 2) := by decide +kernel
theorem dX10_copy_7 : decode cX10_copy 7 = .ok (.aload_n 0, 1) := by decide +kernel
theorem dX10_copy_8 : decode cX10_copy 8 = .ok (.iload_n 3, 1) := by decide +kernel
theorem dX10_copy_9 : decode cX10_copy 9 = .ok (.invokevirtual 270, 3) := by decide +kernel
theorem dX10_copy_12 : decode cX10_copy 12 = .ok (.astore 7, 2) := by decide +kernel
theorem dX10_copy_14 : decode cX10_copy 14 = .ok (.aload 6, 2) := by decide +kernel
theorem dX10_copy_16 : decode cX10_copy 16 = .ok (.ifnull 8, 3) := by decide +kernel
theorem dX10_copy_19 : decode cX10_copy 19 = .ok (.aload 7, 2) := by decide +kernel
theorem dX10_copy_21 : decode cX10_copy 21 = .ok (.ifnonnull 6, 3) := by decide +kernel
theorem dX10_copy_24 : decode cX10_copy 24 = .ok (.bipush (-2), 2) := by decide +kernel
theorem dX10_copy_26 : decode cX10_copy 26 = .ok (.ireturn, 1) := by decide +kernel
theorem dX10_copy_27 : decode cX10_copy 27 = .ok (.aload 6, 2) := by decide +kernel
theorem dX10_copy_29 : decode cX10_copy 29 = .ok (.getfield 297, 3) := by decide +kernel
theorem dX10_copy_32 : decode cX10_copy 32 = .ok (.iconst (-1), 1) := by decide +kernel
theorem dX10_copy_33 : decode cX10_copy 33 = .ok (.if_icmp .eq 12, 3) := by decide +kernel
theorem dX10_copy_36 : decode cX10_copy 36 = .ok (.aload 7, 2) := by decide +kernel
theorem dX10_copy_38 : decode cX10_copy 38 = .ok (.getfield 297, 3) := by decide +kernel
theorem dX10_copy_41 : decode cX10_copy 41 = .ok (.iconst (-1), 1) := by decide +kernel
theorem dX10_copy_42 : decode cX10_copy 42 = .ok (.if_icmp .ne 6, 3) := by decide +kernel
theorem dX10_copy_45 : decode cX10_copy 45 = .ok (.bipush (-11), 2) := by decide +kernel
theorem dX10_copy_47 : decode cX10_copy 47 = .ok (.ireturn, 1) := by decide +kernel
theorem dX10_copy_48 : decode cX10_copy 48 = .ok (.aload 6, 2) := by decide +kernel
theorem dX10_copy_50 : decode cX10_copy 50 = .ok (.getfield 297, 3) := by decide +kernel
theorem dX10_copy_53 : decode cX10_copy 53 = .ok (.aload 7, 2) := by decide +kernel
theorem dX10_copy_55 : decode cX10_copy 55 = .ok (.getfield 297, 3) := by decide +kernel
theorem dX10_copy_58 : decode cX10_copy 58 = .ok (.if_icmp .eq 6, 3) := by decide +kernel
theorem dX10_copy_61 : decode cX10_copy 61 = .ok (.bipush (-13), 2) := by decide +kernel
theorem dX10_copy_63 : decode cX10_copy 63 = .ok (.ireturn, 1) := by decide +kernel
theorem dX10_copy_64 : decode cX10_copy 64 = .ok (.iload 5, 2) := by decide +kernel
theorem dX10_copy_66 : decode cX10_copy 66 = .ok (.ifCond .lt 36, 3) := by decide +kernel
theorem dX10_copy_69 : decode cX10_copy 69 = .ok (.iload_n 2, 1) := by decide +kernel
theorem dX10_copy_70 : decode cX10_copy 70 = .ok (.iconst 0, 1) := by decide +kernel
theorem dX10_copy_71 : decode cX10_copy 71 = .ok (.aload 6, 2) := by decide +kernel
theorem dX10_copy_73 : decode cX10_copy 73 = .ok (.getfield 300, 3) := by decide +kernel
theorem dX10_copy_76 : decode cX10_copy 76 = .ok (.iload 5, 2) := by decide +kernel
theorem dX10_copy_78 : decode cX10_copy 78 = .ok (.isub, 1) := by decide +kernel
theorem dX10_copy_79 : decode cX10_copy 79 = .ok (.invokestatic 102, 3) := by decide +kernel
theorem dX10_copy_82 : decode cX10_copy 82 = .ok (.ifCond .eq 20, 3) := by decide +kernel
theorem dX10_copy_85 : decode cX10_copy 85 = .ok (.iload 4, 2) := by decide +kernel
theorem dX10_copy_87 : decode cX10_copy 87 = .ok (.iconst 0, 1) := by decide +kernel
theorem dX10_copy_88 : decode cX10_copy 88 = .ok (.aload 7, 2) := by decide +kernel
theorem dX10_copy_90 : decode cX10_copy 90 = .ok (.getfield 300, 3) := by decide +kernel
theorem dX10_copy_93 : decode cX10_copy 93 = .ok (.iload 5, 2) := by decide +kernel
theorem dX10_copy_95 : decode cX10_copy 95 = .ok (.isub, 1) := by decide +kernel
theorem dX10_copy_96 : decode cX10_copy 96 = .ok (.invokestatic 102, 3) := by decide +kernel
theorem dX10_copy_99 : decode cX10_copy 99 = .ok (.ifCond .ne 6, 3) := by decide +kernel
theorem dX10_copy_102 : decode cX10_copy 102 = .ok (.bipush (-12), 2) := by decide +kernel
theorem dX10_copy_104 : decode cX10_copy 104 = .ok (.ireturn, 1) := by decide +kernel
theorem dX10_copy_105 : decode cX10_copy 105 = .ok (.aload 6, 2) := by decide +kernel
theorem dX10_copy_107 : decode cX10_copy 107 = .ok (.getfield 304, 3) := by decide +kernel
theorem dX10_copy_110 : decode cX10_copy 110 = .ok (.iload_n 2, 1) := by decide +kernel
theorem dX10_copy_111 : decode cX10_copy 111 = .ok (.aload 7, 2) := by decide +kernel
theorem dX10_copy_113 : decode cX10_copy 113 = .ok (.getfield 304, 3) := by decide +kernel
theorem dX10_copy_116 : decode cX10_copy 116 = .ok (.iload 4, 2) := by decide +kernel
theorem dX10_copy_118 : decode cX10_copy 118 = .ok (.iload 5, 2) := by decide +kernel
theorem dX10_copy_120 : decode cX10_copy 120 = .ok (.invokestatic 308, 3) := by decide +kernel
theorem dX10_copy_123 : decode cX10_copy 123 = .ok (.iload 5, 2) := by decide +kernel
theorem dX10_copy_125 : decode cX10_copy 125 = .ok (.ireturn, 1) := by decide +kernel
theorem dX10_eatersBy_0 : decode cX10_eatersBy 0 = .ok (.aload_n 0, 1) := by decide +kernel
theorem dX10_eatersBy_1 : decode cX10_eatersBy 1 = .ok (.iload_n 1, 1) := by decide +kernel
theorem dX10_eatersBy_2 : decode cX10_eatersBy 2 = .ok (.invokevirtual 270, 3) := by decide +kernel
theorem dX10_eatersBy_5 : decode cX10_eatersBy 5 = .ok (.astore 5, 2) := by decide +kernel
theorem dX10_eatersBy_7 : decode cX10_eatersBy 7 = .ok (.aload 5, 2) := by decide +kernel
theorem dX10_eatersBy_9 : decode cX10_eatersBy 9 = .ok (.ifnull 22, 3) := by decide +kernel
theorem dX10_eatersBy_12 : decode cX10_eatersBy 12 = .ok (.iload_n 2, 1) := by decide +kernel
theorem dX10_eatersBy_13 : decode cX10_eatersBy 13 = .ok (.iconst 0, 1) := by decide +kernel
theorem dX10_eatersBy_14 : decode cX10_eatersBy 14 = .ok (.iconst 2, 1) := by decide +kernel
theorem dX10_eatersBy_15 : decode cX10_eatersBy 15 = .ok (.invokestatic 102, 3) := by decide +kernel
theorem dX10_eatersBy_18 : decode cX10_eatersBy 18 = .ok (.ifCond .eq 13, 3) := by decide +kernel
theorem dX10_eatersBy_21 : decode cX10_eatersBy 21 = .ok (.iload 4, 2) := by decide +kernel
theorem dX10_eatersBy_23 : decode cX10_eatersBy 23 = .ok (.iconst 0, 1) := by decide +kernel
theorem dX10_eatersBy_24 : decode cX10_eatersBy 24 = .ok (.iconst 5, 1) := by decide +kernel
theorem dX10_eatersBy_25 : decode cX10_eatersBy 25 = .ok (.invokestatic 102, 3) := by decide +kernel
theorem dX10_eatersBy_28 : decode cX10_eatersBy 28 = .ok (.ifCond .ne 6, 3) := by decide +kernel
theorem dX10_eatersBy_31 : decode cX10_eatersBy 31 = .ok (.bipush (-2), 2) := by decide +kernel
theorem dX10_eatersBy_33 : decode cX10_eatersBy 33 = .ok (.ireturn, 1) := by decide +kernel
theorem dX10_eatersBy_34 : decode cX10_eatersBy 34 = .ok (.aload 5, 2) := by decide +kernel
theorem dX10_eatersBy_36 : decode cX10_eatersBy 36 = .ok (.getfield 297, 3) := by decide +kernel
theorem dX10_eatersBy_39 : decode cX10_eatersBy 39 = .ok (.iconst (-1), 1) := by decide +kernel
theorem dX10_eatersBy_40 : decode cX10_eatersBy 40 = .ok (.if_icmp .ne 6, 3) := by decide +kernel
theorem dX10_eatersBy_43 : decode cX10_eatersBy 43 = .ok (.bipush (-11), 2) := by decide +kernel
theorem dX10_eatersBy_45 : decode cX10_eatersBy 45 = .ok (.ireturn, 1) := by decide +kernel
theorem dX10_eatersBy_46 : decode cX10_eatersBy 46 = .ok (.aload 5, 2) := by decide +kernel
theorem dX10_eatersBy_48 : decode cX10_eatersBy 48 = .ok (.getfield 297, 3) := by decide +kernel
theorem dX10_eatersBy_51 : decode cX10_eatersBy 51 = .ok (.iload_n 2, 1) := by decide +kernel
theorem dX10_eatersBy_52 : decode cX10_eatersBy 52 = .ok (.if_icmp .eq 6, 3) := by decide +kernel
theorem dX10_eatersBy_55 : decode cX10_eatersBy 55 = .ok (.bipush (-13), 2) := by decide +kernel
theorem dX10_eatersBy_57 : decode cX10_eatersBy 57 = .ok (.ireturn, 1) := by decide +kernel
theorem dX10_eatersBy_58 : decode cX10_eatersBy 58 = .ok (.iconst 0, 1) := by decide +kernel
theorem dX10_eatersBy_59 : decode cX10_eatersBy 59 = .ok (.istore 6, 2) := by decide +kernel
theorem dX10_eatersBy_61 : decode cX10_eatersBy 61 = .ok (.iconst 0, 1) := by decide +kernel
theorem dX10_eatersBy_62 : decode cX10_eatersBy 62 = .ok (.istore 7, 2) := by decide +kernel
theorem dX10_eatersBy_64 : decode cX10_eatersBy 64 = .ok (.iload 7, 2) := by decide +kernel
theorem dX10_eatersBy_66 : decode cX10_eatersBy 66 = .ok (.iload 4, 2) := by decide +kernel
theorem dX10_eatersBy_68 : decode cX10_eatersBy 68 = .ok (.if_icmp .ge 68, 3) := by decide +kernel
theorem dX10_eatersBy_71 : decode cX10_eatersBy 71 = .ok (.iload_n 3, 1) := by decide +kernel
theorem dX10_eatersBy_72 : decode cX10_eatersBy 72 = .ok (.iconst 0, 1) := by decide +kernel
theorem dX10_eatersBy_73 : decode cX10_eatersBy 73 = .ok (.aload 5, 2) := by decide +kernel
theorem dX10_eatersBy_75 : decode cX10_eatersBy 75 = .ok (.getfield 300, 3) := by decide +kernel
theorem dX10_eatersBy_78 : decode cX10_eatersBy 78 = .ok (.iconst 2, 1) := by decide +kernel
theorem dX10_eatersBy_79 : decode cX10_eatersBy 79 = .ok (.iload 7, 2) := by decide +kernel
theorem dX10_eatersBy_81 : decode cX10_eatersBy 81 = .ok (.imul, 1) := by decide +kernel
theorem dX10_eatersBy_82 : decode cX10_eatersBy 82 = .ok (.isub, 1) := by decide +kernel
theorem dX10_eatersBy_83 : decode cX10_eatersBy 83 = .ok (.iconst 2, 1) := by decide +kernel
theorem dX10_eatersBy_84 : decode cX10_eatersBy 84 = .ok (.isub, 1) := by decide +kernel
theorem dX10_eatersBy_85 : decode cX10_eatersBy 85 = .ok (.invokestatic 102, 3) := by decide +kernel
theorem dX10_eatersBy_88 : decode cX10_eatersBy 88 = .ok (.ifCond .ne 6, 3) := by decide +kernel
theorem dX10_eatersBy_91 : decode cX10_eatersBy 91 = .ok (.bipush (-12), 2) := by decide +kernel
theorem dX10_eatersBy_93 : decode cX10_eatersBy 93 = .ok (.ireturn, 1) := by decide +kernel
theorem dX10_eatersBy_94 : decode cX10_eatersBy 94 = .ok (.iload_n 3, 1) := by decide +kernel
theorem dX10_eatersBy_95 : decode cX10_eatersBy 95 = .ok (.iconst 2, 1) := by decide +kernel
theorem dX10_eatersBy_96 : decode cX10_eatersBy 96 = .ok (.iload 7, 2) := by decide +kernel
theorem dX10_eatersBy_98 : decode cX10_eatersBy 98 = .ok (.imul, 1) := by decide +kernel
theorem dX10_eatersBy_99 : decode cX10_eatersBy 99 = .ok (.iadd, 1) := by decide +kernel
theorem dX10_eatersBy_100 : decode cX10_eatersBy 100 = .ok (.istore 8, 2) := by decide +kernel
theorem dX10_eatersBy_102 : decode cX10_eatersBy 102 = .ok (.aload_n 0, 1) := by decide +kernel
theorem dX10_eatersBy_103 : decode cX10_eatersBy 103 = .ok (.aload 5, 2) := by decide +kernel
theorem dX10_eatersBy_105 : decode cX10_eatersBy 105 = .ok (.getfield 304, 3) := by decide +kernel
theorem dX10_eatersBy_108 : decode cX10_eatersBy 108 = .ok (.iload 8, 2) := by decide +kernel
theorem dX10_eatersBy_110 : decode cX10_eatersBy 110 = .ok (.iaload, 1) := by decide +kernel
theorem dX10_eatersBy_111 : decode cX10_eatersBy 111 = .ok (.aload 5, 2) := by decide +kernel
theorem dX10_eatersBy_113 : decode cX10_eatersBy 113 = .ok (.getfield 304, 3) := by decide +kernel
theorem dX10_eatersBy_116 : decode cX10_eatersBy 116 = .ok (.iload 8, 2) := by decide +kernel
theorem dX10_eatersBy_118 : decode cX10_eatersBy 118 = .ok (.iconst 1, 1) := by decide +kernel
theorem dX10_eatersBy_119 : decode cX10_eatersBy 119 = .ok (.iadd, 1) := by decide +kernel
theorem dX10_eatersBy_120 : decode cX10_eatersBy 120 = .ok (.iaload, 1) := by decide +kernel
theorem dX10_eatersBy_121 : decode cX10_eatersBy 121 = .ok (.invokevirtual 149, 3) := by decide +kernel
theorem dX10_eatersBy_124 : decode cX10_eatersBy 124 = .ok (.ifCond .lt 6, 3) := by decide +kernel
theorem dX10_eatersBy_127 : decode cX10_eatersBy 127 = .ok (.iinc 6 1, 3) := by decide +kernel
theorem dX10_eatersBy_130 : decode cX10_eatersBy 130 = .ok (.iinc 7 1, 3) := by decide +kernel
theorem dX10_eatersBy_133 : decode cX10_eatersBy 133 = .ok (.goto (-69), 3) := by decide +kernel
theorem dX10_eatersBy_136 : decode cX10_eatersBy 136 = .ok (.iload 6, 2) := by decide +kernel
theorem dX10_eatersBy_138 : decode cX10_eatersBy 138 = .ok (.ireturn, 1) := by decide +kernel
theorem dX10_taken_0 : decode cX10_taken 0 = .ok (.iload_n 2, 1) := by decide +kernel
theorem dX10_taken_1 : decode cX10_taken 1 = .ok (.iconst 0, 1) := by decide +kernel
theorem dX10_taken_2 : decode cX10_taken 2 = .ok (.bipush 6, 2) := by decide +kernel
theorem dX10_taken_4 : decode cX10_taken 4 = .ok (.invokestatic 102, 3) := by decide +kernel
theorem dX10_taken_7 : decode cX10_taken 7 = .ok (.ifCond .ne 6, 3) := by decide +kernel
theorem dX10_taken_10 : decode cX10_taken 10 = .ok (.bipush (-2), 2) := by decide +kernel
theorem dX10_taken_12 : decode cX10_taken 12 = .ok (.ireturn, 1) := by decide +kernel
theorem dX10_taken_13 : decode cX10_taken 13 = .ok (.iload_n 1, 1) := by decide +kernel
theorem dX10_taken_14 : decode cX10_taken 14 = .ok (.iconst 0, 1) := by decide +kernel
theorem dX10_taken_15 : decode cX10_taken 15 = .ok (.bipush 10, 2) := by decide +kernel
theorem dX10_taken_17 : decode cX10_taken 17 = .ok (.invokestatic 102, 3) := by decide +kernel
theorem dX10_taken_20 : decode cX10_taken 20 = .ok (.ifCond .ne 6, 3) := by decide +kernel
theorem dX10_taken_23 : decode cX10_taken 23 = .ok (.bipush (-12), 2) := by decide +kernel
theorem dX10_taken_25 : decode cX10_taken 25 = .ok (.ireturn, 1) := by decide +kernel
theorem dX10_taken_26 : decode cX10_taken 26 = .ok (.aload_n 0, 1) := by decide +kernel
theorem dX10_taken_27 : decode cX10_taken 27 = .ok (.getfield 68, 3) := by decide +kernel
theorem dX10_taken_30 : decode cX10_taken 30 = .ok (.iload_n 1, 1) := by decide +kernel
theorem dX10_taken_31 : decode cX10_taken 31 = .ok (.invokevirtual 120, 3) := by decide +kernel
theorem dX10_taken_34 : decode cX10_taken 34 = .ok (.astore_n 3, 1) := by decide +kernel
theorem dX10_taken_35 : decode cX10_taken 35 = .ok (.aload_n 0, 1) := by decide +kernel
theorem dX10_taken_36 : decode cX10_taken 36 = .ok (.getfield 68, 3) := by decide +kernel
theorem dX10_taken_39 : decode cX10_taken 39 = .ok (.iload_n 1, 1) := by decide +kernel
theorem dX10_taken_40 : decode cX10_taken 40 = .ok (.iconst 5, 1) := by decide +kernel
theorem dX10_taken_41 : decode cX10_taken 41 = .ok (.isub, 1) := by decide +kernel
theorem dX10_taken_42 : decode cX10_taken 42 = .ok (.invokevirtual 124, 3) := by decide +kernel
theorem dX10_taken_45 : decode cX10_taken 45 = .ok (.astore 4, 2) := by decide +kernel
theorem dX10_taken_47 : decode cX10_taken 47 = .ok (.aload_n 3, 1) := by decide +kernel
theorem dX10_taken_48 : decode cX10_taken 48 = .ok (.ifnonnull 11, 3) := by decide +kernel
theorem dX10_taken_51 : decode cX10_taken 51 = .ok (.aload 4, 2) := by decide +kernel
theorem dX10_taken_53 : decode cX10_taken 53 = .ok (.ifnonnull 6, 3) := by decide +kernel
theorem dX10_taken_56 : decode cX10_taken 56 = .ok (.bipush (-11), 2) := by decide +kernel
theorem dX10_taken_58 : decode cX10_taken 58 = .ok (.ireturn, 1) := by decide +kernel
theorem dX10_taken_59 : decode cX10_taken 59 = .ok (.aload_n 3, 1) := by decide +kernel
theorem dX10_taken_60 : decode cX10_taken 60 = .ok (.ifnull 24, 3) := by decide +kernel
theorem dX10_taken_63 : decode cX10_taken 63 = .ok (.iload_n 2, 1) := by decide +kernel
theorem dX10_taken_64 : decode cX10_taken 64 = .ok (.bipush 6, 2) := by decide +kernel
theorem dX10_taken_66 : decode cX10_taken 66 = .ok (.if_icmp .ge 15, 3) := by decide +kernel
theorem dX10_taken_69 : decode cX10_taken 69 = .ok (.aload_n 3, 1) := by decide +kernel
theorem dX10_taken_70 : decode cX10_taken 70 = .ok (.iload_n 2, 1) := by decide +kernel
theorem dX10_taken_71 : decode cX10_taken 71 = .ok (.invokevirtual 314, 3) := by decide +kernel
theorem dX10_taken_74 : decode cX10_taken 74 = .ok (.ifCond .eq 7, 3) := by decide +kernel
theorem dX10_taken_77 : decode cX10_taken 77 = .ok (.iload_n 1, 1) := by decide +kernel
theorem dX10_taken_78 : decode cX10_taken 78 = .ok (.goto 5, 3) := by decide +kernel
theorem dX10_taken_81 : decode cX10_taken 81 = .ok (.bipush (-13), 2) := by decide +kernel
theorem dX10_taken_83 : decode cX10_taken 83 = .ok (.ireturn, 1) := by decide +kernel
theorem dX10_taken_84 : decode cX10_taken 84 = .ok (.iload_n 2, 1) := by decide +kernel
theorem dX10_taken_85 : decode cX10_taken 85 = .ok (.bipush 6, 2) := by decide +kernel
theorem dX10_taken_87 : decode cX10_taken 87 = .ok (.if_icmp .ne 11, 3) := by decide +kernel
theorem dX10_taken_90 : decode cX10_taken 90 = .ok (.aload 4, 2) := by decide +kernel
theorem dX10_taken_92 : decode cX10_taken 92 = .ok (.getfield 227, 3) := by decide +kernel
theorem dX10_taken_95 : decode cX10_taken 95 = .ok (.goto 5, 3) := by decide +kernel
theorem dX10_taken_98 : decode cX10_taken 98 = .ok (.bipush (-13), 2) := by decide +kernel
theorem dX10_taken_100 : decode cX10_taken 100 = .ok (.ireturn, 1) := by decide +kernel
theorem dX10_within_0 : decode cX10_within 0 = .ok (.iload_n 0, 1) := by decide +kernel
theorem dX10_within_1 : decode cX10_within 1 = .ok (.iload_n 1, 1) := by decide +kernel
theorem dX10_within_2 : decode cX10_within 2 = .ok (.if_icmp .lt 12, 3) := by decide +kernel
theorem dX10_within_5 : decode cX10_within 5 = .ok (.iload_n 0, 1) := by decide +kernel
theorem dX10_within_6 : decode cX10_within 6 = .ok (.iload_n 2, 1) := by decide +kernel
theorem dX10_within_7 : decode cX10_within 7 = .ok (.if_icmp .gt 7, 3) := by decide +kernel
theorem dX10_within_10 : decode cX10_within 10 = .ok (.iconst 1, 1) := by decide +kernel
theorem dX10_within_11 : decode cX10_within 11 = .ok (.goto 4, 3) := by decide +kernel
theorem dX10_within_14 : decode cX10_within 14 = .ok (.iconst 0, 1) := by decide +kernel
theorem dX10_within_15 : decode cX10_within 15 = .ok (.ireturn, 1) := by decide +kernel
theorem dX10_isByte_0 : decode cX10_isByte 0 = .ok (.iload_n 0, 1) := by decide +kernel
theorem dX10_isByte_1 : decode cX10_isByte 1 = .ok (.iconst 0, 1) := by decide +kernel
theorem dX10_isByte_2 : decode cX10_isByte 2 = .ok (.sipush 255, 3) := by decide +kernel
theorem dX10_isByte_5 : decode cX10_isByte 5 = .ok (.invokestatic 102, 3) := by decide +kernel
theorem dX10_isByte_8 : decode cX10_isByte 8 = .ok (.ireturn, 1) := by decide +kernel
theorem dX10_isPlace_0 : decode cX10_isPlace 0 = .ok (.iload_n 0, 1) := by decide +kernel
theorem dX10_isPlace_1 : decode cX10_isPlace 1 = .ok (.iconst 0, 1) := by decide +kernel
theorem dX10_isPlace_2 : decode cX10_isPlace 2 = .ok (.bipush 15, 2) := by decide +kernel
theorem dX10_isPlace_4 : decode cX10_isPlace 4 = .ok (.invokestatic 102, 3) := by decide +kernel
theorem dX10_isPlace_7 : decode cX10_isPlace 7 = .ok (.ireturn, 1) := by decide +kernel
theorem dX10_isMarkOf_0 : decode cX10_isMarkOf 0 = .ok (.iload_n 1, 1) := by decide +kernel
theorem dX10_isMarkOf_1 : decode cX10_isMarkOf 1 = .ok (.iconst 1, 1) := by decide +kernel
theorem dX10_isMarkOf_2 : decode cX10_isMarkOf 2 = .ok (.sipush 1023, 3) := by decide +kernel
theorem dX10_isMarkOf_5 : decode cX10_isMarkOf 5 = .ok (.invokestatic 102, 3) := by decide +kernel
theorem dX10_isMarkOf_8 : decode cX10_isMarkOf 8 = .ok (.ifCond .eq 18, 3) := by decide +kernel
theorem dX10_isMarkOf_11 : decode cX10_isMarkOf 11 = .ok (.iload_n 1, 1) := by decide +kernel
theorem dX10_isMarkOf_12 : decode cX10_isMarkOf 12 = .ok (.aload_n 0, 1) := by decide +kernel
theorem dX10_isMarkOf_13 : decode cX10_isMarkOf 13 = .ok (.getfield 227, 3) := by decide +kernel
theorem dX10_isMarkOf_16 : decode cX10_isMarkOf 16 = .ok (.iconst (-1), 1) := by decide +kernel
theorem dX10_isMarkOf_17 : decode cX10_isMarkOf 17 = .ok (.ixor, 1) := by decide +kernel
theorem dX10_isMarkOf_18 : decode cX10_isMarkOf 18 = .ok (.iand, 1) := by decide +kernel
theorem dX10_isMarkOf_19 : decode cX10_isMarkOf 19 = .ok (.ifCond .ne 7, 3) := by decide +kernel
theorem dX10_isMarkOf_22 : decode cX10_isMarkOf 22 = .ok (.iconst 1, 1) := by decide +kernel
theorem dX10_isMarkOf_23 : decode cX10_isMarkOf 23 = .ok (.goto 4, 3) := by decide +kernel
theorem dX10_isMarkOf_26 : decode cX10_isMarkOf 26 = .ok (.iconst 0, 1) := by decide +kernel
theorem dX10_isMarkOf_27 : decode cX10_isMarkOf 27 = .ok (.ireturn, 1) := by decide +kernel
theorem dX10_commonDivisor_0 : decode cX10_commonDivisor 0 = .ok (.iload_n 1, 1) := by decide +kernel
theorem dX10_commonDivisor_1 : decode cX10_commonDivisor 1 = .ok (.istore_n 2, 1) := by decide +kernel
theorem dX10_commonDivisor_2 : decode cX10_commonDivisor 2 = .ok (.iload_n 2, 1) := by decide +kernel
theorem dX10_commonDivisor_3 : decode cX10_commonDivisor 3 = .ok (.iconst 1, 1) := by decide +kernel
theorem dX10_commonDivisor_4 : decode cX10_commonDivisor 4 = .ok (.if_icmp .le 23, 3) := by decide +kernel
theorem dX10_commonDivisor_7 : decode cX10_commonDivisor 7 = .ok (.iload_n 0, 1) := by decide +kernel
theorem dX10_commonDivisor_8 : decode cX10_commonDivisor 8 = .ok (.iload_n 2, 1) := by decide +kernel
theorem dX10_commonDivisor_9 : decode cX10_commonDivisor 9 = .ok (.irem, 1) := by decide +kernel
theorem dX10_commonDivisor_10 : decode cX10_commonDivisor 10 = .ok (.ifCond .ne 11, 3) := by decide +kernel
theorem dX10_commonDivisor_13 : decode cX10_commonDivisor 13 = .ok (.iload_n 1, 1) := by decide +kernel
theorem dX10_commonDivisor_14 : decode cX10_commonDivisor 14 = .ok (.iload_n 2, 1) := by decide +kernel
theorem dX10_commonDivisor_15 : decode cX10_commonDivisor 15 = .ok (.irem, 1) := by decide +kernel
theorem dX10_commonDivisor_16 : decode cX10_commonDivisor 16 = .ok (.ifCond .ne 5, 3) := by decide +kernel
theorem dX10_commonDivisor_19 : decode cX10_commonDivisor 19 = .ok (.iload_n 2, 1) := by decide +kernel
theorem dX10_commonDivisor_20 : decode cX10_commonDivisor 20 = .ok (.ireturn, 1) := by decide +kernel
theorem dX10_commonDivisor_21 : decode cX10_commonDivisor 21 = .ok (.iinc 2 (-1), 3) := by decide +kernel
theorem dX10_commonDivisor_24 : decode cX10_commonDivisor 24 = .ok (.goto (-22), 3) := by decide +kernel
theorem dX10_commonDivisor_27 : decode cX10_commonDivisor 27 = .ok (.iconst 1, 1) := by decide +kernel
theorem dX10_commonDivisor_28 : decode cX10_commonDivisor 28 = .ok (.ireturn, 1) := by decide +kernel
theorem dX10_textAt_0 : decode cX10_textAt 0 = .ok (.iload_n 1, 1) := by decide +kernel
theorem dX10_textAt_1 : decode cX10_textAt 1 = .ok (.iconst 0, 1) := by decide +kernel
theorem dX10_textAt_2 : decode cX10_textAt 2 = .ok (.aload_n 0, 1) := by decide +kernel
theorem dX10_textAt_3 : decode cX10_textAt 3 = .ok (.getfield 59, 3) := by decide +kernel
theorem dX10_textAt_6 : decode cX10_textAt 6 = .ok (.iconst 1, 1) := by decide +kernel
theorem dX10_textAt_7 : decode cX10_textAt 7 = .ok (.isub, 1) := by decide +kernel
theorem dX10_textAt_8 : decode cX10_textAt 8 = .ok (.invokestatic 102, 3) := by decide +kernel
theorem dX10_textAt_11 : decode cX10_textAt 11 = .ok (.ifCond .eq 12, 3) := by decide +kernel
theorem dX10_textAt_14 : decode cX10_textAt 14 = .ok (.aload_n 0, 1) := by decide +kernel
theorem dX10_textAt_15 : decode cX10_textAt 15 = .ok (.getfield 18, 3) := by decide +kernel
theorem dX10_textAt_18 : decode cX10_textAt 18 = .ok (.iload_n 1, 1) := by decide +kernel
theorem dX10_textAt_19 : decode cX10_textAt 19 = .ok (.aaload, 1) := by decide +kernel
theorem dX10_textAt_20 : decode cX10_textAt 20 = .ok (.goto 4, 3) := by decide +kernel
theorem dX10_textAt_23 : decode cX10_textAt 23 = .ok (.aconst_null, 1) := by decide +kernel
theorem dX10_textAt_24 : decode cX10_textAt 24 = .ok (.areturn, 1) := by decide +kernel
theorem dX10_sheetAt_0 : decode cX10_sheetAt 0 = .ok (.iload_n 1, 1) := by decide +kernel
theorem dX10_sheetAt_1 : decode cX10_sheetAt 1 = .ok (.iconst 0, 1) := by decide +kernel
theorem dX10_sheetAt_2 : decode cX10_sheetAt 2 = .ok (.iconst 3, 1) := by decide +kernel
theorem dX10_sheetAt_3 : decode cX10_sheetAt 3 = .ok (.invokestatic 102, 3) := by decide +kernel
theorem dX10_sheetAt_6 : decode cX10_sheetAt 6 = .ok (.ifCond .eq 12, 3) := by decide +kernel
theorem dX10_sheetAt_9 : decode cX10_sheetAt 9 = .ok (.aload_n 0, 1) := by decide +kernel
theorem dX10_sheetAt_10 : decode cX10_sheetAt 10 = .ok (.getfield 38, 3) := by decide +kernel
theorem dX10_sheetAt_13 : decode cX10_sheetAt 13 = .ok (.iload_n 1, 1) := by decide +kernel
theorem dX10_sheetAt_14 : decode cX10_sheetAt 14 = .ok (.aaload, 1) := by decide +kernel
theorem dX10_sheetAt_15 : decode cX10_sheetAt 15 = .ok (.goto 4, 3) := by decide +kernel
theorem dX10_sheetAt_18 : decode cX10_sheetAt 18 = .ok (.aconst_null, 1) := by decide +kernel
theorem dX10_sheetAt_19 : decode cX10_sheetAt 19 = .ok (.areturn, 1) := by decide +kernel
theorem dX10_comeEater_0 : decode cX10_comeEater 0 = .ok (.iload_n 1, 1) := by decide +kernel
theorem dX10_comeEater_1 : decode cX10_comeEater 1 = .ok (.iconst 0, 1) := by decide +kernel
theorem dX10_comeEater_2 : decode cX10_comeEater 2 = .ok (.bipush 59, 2) := by decide +kernel
theorem dX10_comeEater_4 : decode cX10_comeEater 4 = .ok (.invokestatic 102, 3) := by decide +kernel
theorem dX10_comeEater_7 : decode cX10_comeEater 7 = .ok (.ifCond .eq 13, 3) := by decide +kernel
theorem dX10_comeEater_10 : decode cX10_comeEater 10 = .ok (.iload_n 2, 1) := by decide +kernel
theorem dX10_comeEater_11 : decode cX10_comeEater 11 = .ok (.iconst 1, 1) := by decide +kernel
theorem dX10_comeEater_12 : decode cX10_comeEater 12 = .ok (.bipush 63, 2) := by decide +kernel
theorem dX10_comeEater_14 : decode cX10_comeEater 14 = .ok (.invokestatic 102, 3) := by decide +kernel
theorem dX10_comeEater_17 : decode cX10_comeEater 17 = .ok (.ifCond .ne 6, 3) := by decide +kernel
theorem dX10_comeEater_20 : decode cX10_comeEater 20 = .ok (.bipush (-2), 2) := by decide +kernel
theorem dX10_comeEater_22 : decode cX10_comeEater 22 = .ok (.ireturn, 1) := by decide +kernel
theorem dX10_comeEater_23 : decode cX10_comeEater 23 = .ok (.aload_n 0, 1) := by decide +kernel
theorem dX10_comeEater_24 : decode cX10_comeEater 24 = .ok (.getfield 68, 3) := by decide +kernel
theorem dX10_comeEater_27 : decode cX10_comeEater 27 = .ok (.iload_n 1, 1) := by decide +kernel
theorem dX10_comeEater_28 : decode cX10_comeEater 28 = .ok (.bipush 10, 2) := by decide +kernel
theorem dX10_comeEater_30 : decode cX10_comeEater 30 = .ok (.idiv, 1) := by decide +kernel
theorem dX10_comeEater_31 : decode cX10_comeEater 31 = .ok (.iload_n 1, 1) := by decide +kernel
theorem dX10_comeEater_32 : decode cX10_comeEater 32 = .ok (.bipush 10, 2) := by decide +kernel
theorem dX10_comeEater_34 : decode cX10_comeEater 34 = .ok (.irem, 1) := by decide +kernel
theorem dX10_comeEater_35 : decode cX10_comeEater 35 = .ok (.iload_n 2, 1) := by decide +kernel
theorem dX10_comeEater_36 : decode cX10_comeEater 36 = .ok (.invokevirtual 317, 3) := by decide +kernel
theorem dX10_comeEater_39 : decode cX10_comeEater 39 = .ok (.ireturn, 1) := by decide +kernel
theorem dX10_refusalOfDay_0 : decode cX10_refusalOfDay 0 = .ok (.aload_n 0, 1) := by decide +kernel
theorem dX10_refusalOfDay_1 : decode cX10_refusalOfDay 1 = .ok (.iload_n 1, 1) := by decide +kernel
theorem dX10_refusalOfDay_2 : decode cX10_refusalOfDay 2 = .ok (.invokevirtual 270, 3) := by decide +kernel
theorem dX10_refusalOfDay_5 : decode cX10_refusalOfDay 5 = .ok (.astore_n 2, 1) := by decide +kernel
theorem dX10_refusalOfDay_6 : decode cX10_refusalOfDay 6 = .ok (.aload_n 2, 1) := by decide +kernel
theorem dX10_refusalOfDay_7 : decode cX10_refusalOfDay 7 = .ok (.ifnonnull 6, 3) := by decide +kernel
theorem dX10_refusalOfDay_10 : decode cX10_refusalOfDay 10 = .ok (.bipush (-2), 2) := by decide +kernel
theorem dX10_refusalOfDay_12 : decode cX10_refusalOfDay 12 = .ok (.ireturn, 1) := by decide +kernel
theorem dX10_refusalOfDay_13 : decode cX10_refusalOfDay 13 = .ok (.aload_n 2, 1) := by decide +kernel
theorem dX10_refusalOfDay_14 : decode cX10_refusalOfDay 14 = .ok (.getfield 297, 3) := by decide +kernel
theorem dX10_refusalOfDay_17 : decode cX10_refusalOfDay 17 = .ok (.iconst (-1), 1) := by decide +kernel
theorem dX10_refusalOfDay_18 : decode cX10_refusalOfDay 18 = .ok (.if_icmp .ne 6, 3) := by decide +kernel
theorem dX10_refusalOfDay_21 : decode cX10_refusalOfDay 21 = .ok (.bipush (-11), 2) := by decide +kernel
theorem dX10_refusalOfDay_23 : decode cX10_refusalOfDay 23 = .ok (.ireturn, 1) := by decide +kernel
theorem dX10_refusalOfDay_24 : decode cX10_refusalOfDay 24 = .ok (.aload_n 2, 1) := by decide +kernel
theorem dX10_refusalOfDay_25 : decode cX10_refusalOfDay 25 = .ok (.getfield 300, 3) := by decide +kernel
theorem dX10_refusalOfDay_28 : decode cX10_refusalOfDay 28 = .ok (.iconst 3, 1) := by decide +kernel
theorem dX10_refusalOfDay_29 : decode cX10_refusalOfDay 29 = .ok (.irem, 1) := by decide +kernel
theorem dX10_refusalOfDay_30 : decode cX10_refusalOfDay 30 = .ok (.ifCond .eq 6, 3) := by decide +kernel
theorem dX10_refusalOfDay_33 : decode cX10_refusalOfDay 33 = .ok (.bipush (-2), 2) := by decide +kernel
theorem dX10_refusalOfDay_35 : decode cX10_refusalOfDay 35 = .ok (.ireturn, 1) := by decide +kernel
theorem dX10_refusalOfDay_36 : decode cX10_refusalOfDay 36 = .ok (.iconst 0, 1) := by decide +kernel
theorem dX10_refusalOfDay_37 : decode cX10_refusalOfDay 37 = .ok (.istore_n 3, 1) := by decide +kernel
theorem dX10_refusalOfDay_38 : decode cX10_refusalOfDay 38 = .ok (.iload_n 3, 1) := by decide +kernel
theorem dX10_refusalOfDay_39 : decode cX10_refusalOfDay 39 = .ok (.iconst 2, 1) := by decide +kernel
theorem dX10_refusalOfDay_40 : decode cX10_refusalOfDay 40 = .ok (.iadd, 1) := by decide +kernel
theorem dX10_refusalOfDay_41 : decode cX10_refusalOfDay 41 = .ok (.aload_n 2, 1) := by decide +kernel
theorem dX10_refusalOfDay_42 : decode cX10_refusalOfDay 42 = .ok (.getfield 300, 3) := by decide +kernel
theorem dX10_refusalOfDay_45 : decode cX10_refusalOfDay 45 = .ok (.if_icmp .ge 60, 3) := by decide +kernel
theorem dX10_refusalOfDay_48 : decode cX10_refusalOfDay 48 = .ok (.aload_n 0, 1) := by decide +kernel
theorem dX10_refusalOfDay_49 : decode cX10_refusalOfDay 49 = .ok (.getfield 68, 3) := by decide +kernel
theorem dX10_refusalOfDay_52 : decode cX10_refusalOfDay 52 = .ok (.aload_n 2, 1) := by decide +kernel
theorem dX10_refusalOfDay_53 : decode cX10_refusalOfDay 53 = .ok (.getfield 304, 3) := by decide +kernel
theorem dX10_refusalOfDay_56 : decode cX10_refusalOfDay 56 = .ok (.iload_n 3, 1) := by decide +kernel
theorem dX10_refusalOfDay_57 : decode cX10_refusalOfDay 57 = .ok (.iaload, 1) := by decide +kernel
theorem dX10_refusalOfDay_58 : decode cX10_refusalOfDay 58 = .ok (.invokevirtual 120, 3) := by decide +kernel
theorem dX10_refusalOfDay_61 : decode cX10_refusalOfDay 61 = .ok (.ifnull 35, 3) := by decide +kernel
theorem dX10_refusalOfDay_64 : decode cX10_refusalOfDay 64 = .ok (.aload_n 0, 1) := by decide +kernel
theorem dX10_refusalOfDay_65 : decode cX10_refusalOfDay 65 = .ok (.getfield 68, 3) := by decide +kernel
theorem dX10_refusalOfDay_68 : decode cX10_refusalOfDay 68 = .ok (.aload_n 2, 1) := by decide +kernel
theorem dX10_refusalOfDay_69 : decode cX10_refusalOfDay 69 = .ok (.getfield 304, 3) := by decide +kernel
theorem dX10_refusalOfDay_72 : decode cX10_refusalOfDay 72 = .ok (.iload_n 3, 1) := by decide +kernel
theorem dX10_refusalOfDay_73 : decode cX10_refusalOfDay 73 = .ok (.iconst 1, 1) := by decide +kernel
theorem dX10_refusalOfDay_74 : decode cX10_refusalOfDay 74 = .ok (.iadd, 1) := by decide +kernel
theorem dX10_refusalOfDay_75 : decode cX10_refusalOfDay 75 = .ok (.iaload, 1) := by decide +kernel
theorem dX10_refusalOfDay_76 : decode cX10_refusalOfDay 76 = .ok (.invokevirtual 124, 3) := by decide +kernel
theorem dX10_refusalOfDay_79 : decode cX10_refusalOfDay 79 = .ok (.ifnull 17, 3) := by decide +kernel
theorem dX10_refusalOfDay_82 : decode cX10_refusalOfDay 82 = .ok (.aload_n 2, 1) := by decide +kernel
theorem dX10_refusalOfDay_83 : decode cX10_refusalOfDay 83 = .ok (.getfield 304, 3) := by decide +kernel
theorem dX10_refusalOfDay_86 : decode cX10_refusalOfDay 86 = .ok (.iload_n 3, 1) := by decide +kernel
theorem dX10_refusalOfDay_87 : decode cX10_refusalOfDay 87 = .ok (.iconst 2, 1) := by decide +kernel
theorem dX10_refusalOfDay_88 : decode cX10_refusalOfDay 88 = .ok (.iadd, 1) := by decide +kernel
theorem dX10_refusalOfDay_89 : decode cX10_refusalOfDay 89 = .ok (.iaload, 1) := by decide +kernel
theorem dX10_refusalOfDay_90 : decode cX10_refusalOfDay 90 = .ok (.invokestatic 173, 3) := by decide +kernel
theorem dX10_refusalOfDay_93 : decode cX10_refusalOfDay 93 = .ok (.ifCond .ne 6, 3) := by decide +kernel
theorem dX10_refusalOfDay_96 : decode cX10_refusalOfDay 96 = .ok (.bipush (-2), 2) := by decide +kernel
theorem dX10_refusalOfDay_98 : decode cX10_refusalOfDay 98 = .ok (.ireturn, 1) := by decide +kernel
theorem dX10_refusalOfDay_99 : decode cX10_refusalOfDay 99 = .ok (.iinc 3 3, 3) := by decide +kernel
theorem dX10_refusalOfDay_102 : decode cX10_refusalOfDay 102 = .ok (.goto (-64), 3) := by decide +kernel
theorem dX10_refusalOfDay_105 : decode cX10_refusalOfDay 105 = .ok (.iconst 0, 1) := by decide +kernel
theorem dX10_refusalOfDay_106 : decode cX10_refusalOfDay 106 = .ok (.ireturn, 1) := by decide +kernel
