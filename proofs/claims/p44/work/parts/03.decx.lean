theorem dX0_init_0 : decode cX0_init 0 = .ok (.aload_n 0, 1) := by decide +kernel
theorem dX0_init_1 : decode cX0_init 1 = .ok (.invokespecial 3, 3) := by decide +kernel
theorem dX0_init_4 : decode cX0_init 4 = .ok (.aload_n 0, 1) := by decide +kernel
theorem dX0_init_5 : decode cX0_init 5 = .ok (.sipush 180, 3) := by decide +kernel
theorem dX0_init_8 : decode cX0_init 8 = .ok (.newarray .int, 2) := by decide +kernel
theorem dX0_init_10 : decode cX0_init 10 = .ok (.putfield 9, 3) := by decide +kernel
theorem dX0_init_13 : decode cX0_init 13 = .ok (.aload_n 0, 1) := by decide +kernel
theorem dX0_init_14 : decode cX0_init 14 = .ok (.sipush 180, 3) := by decide +kernel
theorem dX0_init_17 : decode cX0_init 17 = .ok (.newarray .int, 2) := by decide +kernel
theorem dX0_init_19 : decode cX0_init 19 = .ok (.putfield 15, 3) := by decide +kernel
theorem dX0_init_22 : decode cX0_init 22 = .ok (.aload_n 0, 1) := by decide +kernel
theorem dX0_init_23 : decode cX0_init 23 = .ok (.sipush 180, 3) := by decide +kernel
theorem dX0_init_26 : decode cX0_init 26 = .ok (.newarray .int, 2) := by decide +kernel
theorem dX0_init_28 : decode cX0_init 28 = .ok (.putfield 18, 3) := by decide +kernel
theorem dX0_init_31 : decode cX0_init 31 = .ok (.aload_n 0, 1) := by decide +kernel
theorem dX0_init_32 : decode cX0_init 32 = .ok (.sipush 180, 3) := by decide +kernel
theorem dX0_init_35 : decode cX0_init 35 = .ok (.newarray .int, 2) := by decide +kernel
theorem dX0_init_37 : decode cX0_init 37 = .ok (.putfield 21, 3) := by decide +kernel
theorem dX0_init_40 : decode cX0_init 40 = .ok (.aload_n 0, 1) := by decide +kernel
theorem dX0_init_41 : decode cX0_init 41 = .ok (.sipush 180, 3) := by decide +kernel
theorem dX0_init_44 : decode cX0_init 44 = .ok (.newarray .int, 2) := by decide +kernel
theorem dX0_init_46 : decode cX0_init 46 = .ok (.putfield 24, 3) := by decide +kernel
theorem dX0_init_49 : decode cX0_init 49 = .ok (.aload_n 0, 1) := by decide +kernel
theorem dX0_init_50 : decode cX0_init 50 = .ok (.sipush 180, 3) := by decide +kernel
theorem dX0_init_53 : decode cX0_init 53 = .ok (.newarray .int, 2) := by decide +kernel
theorem dX0_init_55 : decode cX0_init 55 = .ok (.putfield 27, 3) := by decide +kernel
theorem dX0_init_58 : decode cX0_init 58 = .ok (.aload_n 0, 1) := by decide +kernel
theorem dX0_init_59 : decode cX0_init 59 = .ok (.iconst 0, 1) := by decide +kernel
theorem dX0_init_60 : decode cX0_init 60 = .ok (.putfield 30, 3) := by decide +kernel
theorem dX0_init_63 : decode cX0_init 63 = .ok (.aload_n 0, 1) := by decide +kernel
theorem dX0_init_64 : decode cX0_init 64 = .ok (.iconst 0, 1) := by decide +kernel
theorem dX0_init_65 : decode cX0_init 65 = .ok (.putfield 34, 3) := by decide +kernel
theorem dX0_init_68 : decode cX0_init 68 = .ok (.return_, 1) := by decide +kernel
theorem dX0_open_0 : decode cX0_open 0 = .ok (.aload_n 0, 1) := by decide +kernel
theorem dX0_open_1 : decode cX0_open 1 = .ok (.getfield 30, 3) := by decide +kernel
theorem dX0_open_4 : decode cX0_open 4 = .ok (.sipush 180, 3) := by decide +kernel
theorem dX0_open_7 : decode cX0_open 7 = .ok (.if_icmp .ge 75, 3) := by decide +kernel
theorem dX0_open_10 : decode cX0_open 10 = .ok (.aload_n 0, 1) := by decide +kernel
theorem dX0_open_11 : decode cX0_open 11 = .ok (.getfield 9, 3) := by decide +kernel
theorem dX0_open_14 : decode cX0_open 14 = .ok (.aload_n 0, 1) := by decide +kernel
theorem dX0_open_15 : decode cX0_open 15 = .ok (.getfield 30, 3) := by decide +kernel
theorem dX0_open_18 : decode cX0_open 18 = .ok (.iload_n 1, 1) := by decide +kernel
theorem dX0_open_19 : decode cX0_open 19 = .ok (.iastore, 1) := by decide +kernel
theorem dX0_open_20 : decode cX0_open 20 = .ok (.aload_n 0, 1) := by decide +kernel
theorem dX0_open_21 : decode cX0_open 21 = .ok (.getfield 15, 3) := by decide +kernel
theorem dX0_open_24 : decode cX0_open 24 = .ok (.aload_n 0, 1) := by decide +kernel
theorem dX0_open_25 : decode cX0_open 25 = .ok (.getfield 30, 3) := by decide +kernel
theorem dX0_open_28 : decode cX0_open 28 = .ok (.iload_n 2, 1) := by decide +kernel
theorem dX0_open_29 : decode cX0_open 29 = .ok (.iastore, 1) := by decide +kernel
theorem dX0_open_30 : decode cX0_open 30 = .ok (.aload_n 0, 1) := by decide +kernel
theorem dX0_open_31 : decode cX0_open 31 = .ok (.getfield 18, 3) := by decide +kernel
theorem dX0_open_34 : decode cX0_open 34 = .ok (.aload_n 0, 1) := by decide +kernel
theorem dX0_open_35 : decode cX0_open 35 = .ok (.getfield 30, 3) := by decide +kernel
theorem dX0_open_38 : decode cX0_open 38 = .ok (.iload_n 3, 1) := by decide +kernel
theorem dX0_open_39 : decode cX0_open 39 = .ok (.iastore, 1) := by decide +kernel
theorem dX0_open_40 : decode cX0_open 40 = .ok (.aload_n 0, 1) := by decide +kernel
theorem dX0_open_41 : decode cX0_open 41 = .ok (.getfield 21, 3) := by decide +kernel
theorem dX0_open_44 : decode cX0_open 44 = .ok (.aload_n 0, 1) := by decide +kernel
theorem dX0_open_45 : decode cX0_open 45 = .ok (.getfield 30, 3) := by decide +kernel
theorem dX0_open_48 : decode cX0_open 48 = .ok (.iload 4, 2) := by decide +kernel
theorem dX0_open_50 : decode cX0_open 50 = .ok (.iastore, 1) := by decide +kernel
theorem dX0_open_51 : decode cX0_open 51 = .ok (.aload_n 0, 1) := by decide +kernel
theorem dX0_open_52 : decode cX0_open 52 = .ok (.getfield 24, 3) := by decide +kernel
theorem dX0_open_55 : decode cX0_open 55 = .ok (.aload_n 0, 1) := by decide +kernel
theorem dX0_open_56 : decode cX0_open 56 = .ok (.getfield 30, 3) := by decide +kernel
theorem dX0_open_59 : decode cX0_open 59 = .ok (.iload 5, 2) := by decide +kernel
theorem dX0_open_61 : decode cX0_open 61 = .ok (.iastore, 1) := by decide +kernel
theorem dX0_open_62 : decode cX0_open 62 = .ok (.aload_n 0, 1) := by decide +kernel
theorem dX0_open_63 : decode cX0_open 63 = .ok (.getfield 27, 3) := by decide +kernel
theorem dX0_open_66 : decode cX0_open 66 = .ok (.aload_n 0, 1) := by decide +kernel
theorem dX0_open_67 : decode cX0_open 67 = .ok (.getfield 30, 3) := by decide +kernel
theorem dX0_open_70 : decode cX0_open 70 = .ok (.iconst (-1), 1) := by decide +kernel
theorem dX0_open_71 : decode cX0_open 71 = .ok (.iastore, 1) := by decide +kernel
theorem dX0_open_72 : decode cX0_open 72 = .ok (.aload_n 0, 1) := by decide +kernel
theorem dX0_open_73 : decode cX0_open 73 = .ok (.dup, 1) := by decide +kernel
theorem dX0_open_74 : decode cX0_open 74 = .ok (.getfield 30, 3) := by decide +kernel
theorem dX0_open_77 : decode cX0_open 77 = .ok (.iconst 1, 1) := by decide +kernel
theorem dX0_open_78 : decode cX0_open 78 = .ok (.iadd, 1) := by decide +kernel
theorem dX0_open_79 : decode cX0_open 79 = .ok (.putfield 30, 3) := by decide +kernel
theorem dX0_open_82 : decode cX0_open 82 = .ok (.return_, 1) := by decide +kernel
theorem dX0_clear_0 : decode cX0_clear 0 = .ok (.iconst 0, 1) := by decide +kernel
theorem dX0_clear_1 : decode cX0_clear 1 = .ok (.istore 5, 2) := by decide +kernel
theorem dX0_clear_3 : decode cX0_clear 3 = .ok (.iconst (-1), 1) := by decide +kernel
theorem dX0_clear_4 : decode cX0_clear 4 = .ok (.istore 6, 2) := by decide +kernel
theorem dX0_clear_6 : decode cX0_clear 6 = .ok (.iconst (-1), 1) := by decide +kernel
theorem dX0_clear_7 : decode cX0_clear 7 = .ok (.istore 7, 2) := by decide +kernel
theorem dX0_clear_9 : decode cX0_clear 9 = .ok (.iconst 0, 1) := by decide +kernel
theorem dX0_clear_10 : decode cX0_clear 10 = .ok (.istore 8, 2) := by decide +kernel
theorem dX0_clear_12 : decode cX0_clear 12 = .ok (.iload 8, 2) := by decide +kernel
theorem dX0_clear_14 : decode cX0_clear 14 = .ok (.aload_n 0, 1) := by decide +kernel
theorem dX0_clear_15 : decode cX0_clear 15 = .ok (.getfield 30, 3) := by decide +kernel
theorem dX0_clear_18 : decode cX0_clear 18 = .ok (.if_icmp .ge 94, 3) := by decide +kernel
theorem dX0_clear_21 : decode cX0_clear 21 = .ok (.aload_n 0, 1) := by decide +kernel
theorem dX0_clear_22 : decode cX0_clear 22 = .ok (.getfield 9, 3) := by decide +kernel
theorem dX0_clear_25 : decode cX0_clear 25 = .ok (.iload 8, 2) := by decide +kernel
theorem dX0_clear_27 : decode cX0_clear 27 = .ok (.iaload, 1) := by decide +kernel
theorem dX0_clear_28 : decode cX0_clear 28 = .ok (.iload_n 1, 1) := by decide +kernel
theorem dX0_clear_29 : decode cX0_clear 29 = .ok (.if_icmp .ne 77, 3) := by decide +kernel
theorem dX0_clear_32 : decode cX0_clear 32 = .ok (.aload_n 0, 1) := by decide +kernel
theorem dX0_clear_33 : decode cX0_clear 33 = .ok (.getfield 27, 3) := by decide +kernel
theorem dX0_clear_36 : decode cX0_clear 36 = .ok (.iload 8, 2) := by decide +kernel
theorem dX0_clear_38 : decode cX0_clear 38 = .ok (.iaload, 1) := by decide +kernel
theorem dX0_clear_39 : decode cX0_clear 39 = .ok (.iconst (-1), 1) := by decide +kernel
theorem dX0_clear_40 : decode cX0_clear 40 = .ok (.if_icmp .ne 66, 3) := by decide +kernel
theorem dX0_clear_43 : decode cX0_clear 43 = .ok (.aload_n 0, 1) := by decide +kernel
theorem dX0_clear_44 : decode cX0_clear 44 = .ok (.iload 8, 2) := by decide +kernel
theorem dX0_clear_46 : decode cX0_clear 46 = .ok (.iload_n 2, 1) := by decide +kernel
theorem dX0_clear_47 : decode cX0_clear 47 = .ok (.iload_n 3, 1) := by decide +kernel
theorem dX0_clear_48 : decode cX0_clear 48 = .ok (.invokevirtual 37, 3) := by decide +kernel
theorem dX0_clear_51 : decode cX0_clear 51 = .ok (.ifCond .le 55, 3) := by decide +kernel
theorem dX0_clear_54 : decode cX0_clear 54 = .ok (.aload_n 0, 1) := by decide +kernel
theorem dX0_clear_55 : decode cX0_clear 55 = .ok (.getfield 27, 3) := by decide +kernel
theorem dX0_clear_58 : decode cX0_clear 58 = .ok (.iload 8, 2) := by decide +kernel
theorem dX0_clear_60 : decode cX0_clear 60 = .ok (.iload 4, 2) := by decide +kernel
theorem dX0_clear_62 : decode cX0_clear 62 = .ok (.iastore, 1) := by decide +kernel
theorem dX0_clear_63 : decode cX0_clear 63 = .ok (.iinc 5 1, 3) := by decide +kernel
theorem dX0_clear_66 : decode cX0_clear 66 = .ok (.aload_n 0, 1) := by decide +kernel
theorem dX0_clear_67 : decode cX0_clear 67 = .ok (.getfield 18, 3) := by decide +kernel
theorem dX0_clear_70 : decode cX0_clear 70 = .ok (.iload 8, 2) := by decide +kernel
theorem dX0_clear_72 : decode cX0_clear 72 = .ok (.iaload, 1) := by decide +kernel
theorem dX0_clear_73 : decode cX0_clear 73 = .ok (.iload_n 2, 1) := by decide +kernel
theorem dX0_clear_74 : decode cX0_clear 74 = .ok (.if_icmp .ge 8, 3) := by decide +kernel
theorem dX0_clear_77 : decode cX0_clear 77 = .ok (.iload 8, 2) := by decide +kernel
theorem dX0_clear_79 : decode cX0_clear 79 = .ok (.goto 5, 3) := by decide +kernel
theorem dX0_clear_82 : decode cX0_clear 82 = .ok (.iload 6, 2) := by decide +kernel
theorem dX0_clear_84 : decode cX0_clear 84 = .ok (.istore 6, 2) := by decide +kernel
theorem dX0_clear_86 : decode cX0_clear 86 = .ok (.aload_n 0, 1) := by decide +kernel
theorem dX0_clear_87 : decode cX0_clear 87 = .ok (.getfield 21, 3) := by decide +kernel
theorem dX0_clear_90 : decode cX0_clear 90 = .ok (.iload 8, 2) := by decide +kernel
theorem dX0_clear_92 : decode cX0_clear 92 = .ok (.iaload, 1) := by decide +kernel
theorem dX0_clear_93 : decode cX0_clear 93 = .ok (.iload_n 3, 1) := by decide +kernel
theorem dX0_clear_94 : decode cX0_clear 94 = .ok (.if_icmp .le 8, 3) := by decide +kernel
theorem dX0_clear_97 : decode cX0_clear 97 = .ok (.iload 8, 2) := by decide +kernel
theorem dX0_clear_99 : decode cX0_clear 99 = .ok (.goto 5, 3) := by decide +kernel
theorem dX0_clear_102 : decode cX0_clear 102 = .ok (.iload 7, 2) := by decide +kernel
theorem dX0_clear_104 : decode cX0_clear 104 = .ok (.istore 7, 2) := by decide +kernel
theorem dX0_clear_106 : decode cX0_clear 106 = .ok (.iinc 8 1, 3) := by decide +kernel
theorem dX0_clear_109 : decode cX0_clear 109 = .ok (.goto (-97), 3) := by decide +kernel
theorem dX0_clear_112 : decode cX0_clear 112 = .ok (.iload 6, 2) := by decide +kernel
theorem dX0_clear_114 : decode cX0_clear 114 = .ok (.iconst (-1), 1) := by decide +kernel
theorem dX0_clear_115 : decode cX0_clear 115 = .ok (.if_icmp .eq 23, 3) := by decide +kernel
theorem dX0_clear_118 : decode cX0_clear 118 = .ok (.aload_n 0, 1) := by decide +kernel
theorem dX0_clear_119 : decode cX0_clear 119 = .ok (.iload_n 1, 1) := by decide +kernel
theorem dX0_clear_120 : decode cX0_clear 120 = .ok (.aload_n 0, 1) := by decide +kernel
theorem dX0_clear_121 : decode cX0_clear 121 = .ok (.iload 6, 2) := by decide +kernel
theorem dX0_clear_123 : decode cX0_clear 123 = .ok (.invokevirtual 41, 3) := by decide +kernel
theorem dX0_clear_126 : decode cX0_clear 126 = .ok (.aload_n 0, 1) := by decide +kernel
theorem dX0_clear_127 : decode cX0_clear 127 = .ok (.iload 6, 2) := by decide +kernel
theorem dX0_clear_129 : decode cX0_clear 129 = .ok (.invokevirtual 45, 3) := by decide +kernel
theorem dX0_clear_132 : decode cX0_clear 132 = .ok (.iload_n 2, 1) := by decide +kernel
theorem dX0_clear_133 : decode cX0_clear 133 = .ok (.iload 4, 2) := by decide +kernel
theorem dX0_clear_135 : decode cX0_clear 135 = .ok (.invokevirtual 48, 3) := by decide +kernel
theorem dX0_clear_138 : decode cX0_clear 138 = .ok (.iload 7, 2) := by decide +kernel
theorem dX0_clear_140 : decode cX0_clear 140 = .ok (.iconst (-1), 1) := by decide +kernel
theorem dX0_clear_141 : decode cX0_clear 141 = .ok (.if_icmp .eq 23, 3) := by decide +kernel
theorem dX0_clear_144 : decode cX0_clear 144 = .ok (.aload_n 0, 1) := by decide +kernel
theorem dX0_clear_145 : decode cX0_clear 145 = .ok (.iload_n 1, 1) := by decide +kernel
theorem dX0_clear_146 : decode cX0_clear 146 = .ok (.aload_n 0, 1) := by decide +kernel
theorem dX0_clear_147 : decode cX0_clear 147 = .ok (.iload 7, 2) := by decide +kernel
theorem dX0_clear_149 : decode cX0_clear 149 = .ok (.invokevirtual 41, 3) := by decide +kernel
theorem dX0_clear_152 : decode cX0_clear 152 = .ok (.iload_n 3, 1) := by decide +kernel
theorem dX0_clear_153 : decode cX0_clear 153 = .ok (.aload_n 0, 1) := by decide +kernel
theorem dX0_clear_154 : decode cX0_clear 154 = .ok (.iload 7, 2) := by decide +kernel
theorem dX0_clear_156 : decode cX0_clear 156 = .ok (.invokevirtual 52, 3) := by decide +kernel
theorem dX0_clear_159 : decode cX0_clear 159 = .ok (.iload 4, 2) := by decide +kernel
theorem dX0_clear_161 : decode cX0_clear 161 = .ok (.invokevirtual 48, 3) := by decide +kernel
theorem dX0_clear_164 : decode cX0_clear 164 = .ok (.iload 5, 2) := by decide +kernel
theorem dX0_clear_166 : decode cX0_clear 166 = .ok (.ireturn, 1) := by decide +kernel
theorem dX0_find_0 : decode cX0_find 0 = .ok (.iconst 0, 1) := by decide +kernel
theorem dX0_find_1 : decode cX0_find 1 = .ok (.istore 4, 2) := by decide +kernel
theorem dX0_find_3 : decode cX0_find 3 = .ok (.iload 4, 2) := by decide +kernel
theorem dX0_find_5 : decode cX0_find 5 = .ok (.aload_n 0, 1) := by decide +kernel
theorem dX0_find_6 : decode cX0_find 6 = .ok (.getfield 30, 3) := by decide +kernel
theorem dX0_find_9 : decode cX0_find 9 = .ok (.if_icmp .ge 46, 3) := by decide +kernel
theorem dX0_find_12 : decode cX0_find 12 = .ok (.aload_n 0, 1) := by decide +kernel
theorem dX0_find_13 : decode cX0_find 13 = .ok (.getfield 9, 3) := by decide +kernel
theorem dX0_find_16 : decode cX0_find 16 = .ok (.iload 4, 2) := by decide +kernel
theorem dX0_find_18 : decode cX0_find 18 = .ok (.iaload, 1) := by decide +kernel
theorem dX0_find_19 : decode cX0_find 19 = .ok (.iload_n 1, 1) := by decide +kernel
theorem dX0_find_20 : decode cX0_find 20 = .ok (.if_icmp .ne 29, 3) := by decide +kernel
theorem dX0_find_23 : decode cX0_find 23 = .ok (.aload_n 0, 1) := by decide +kernel
theorem dX0_find_24 : decode cX0_find 24 = .ok (.iload 4, 2) := by decide +kernel
theorem dX0_find_26 : decode cX0_find 26 = .ok (.iload_n 3, 1) := by decide +kernel
theorem dX0_find_27 : decode cX0_find 27 = .ok (.invokevirtual 55, 3) := by decide +kernel
theorem dX0_find_30 : decode cX0_find 30 = .ok (.ifCond .eq 19, 3) := by decide +kernel
theorem dX0_find_33 : decode cX0_find 33 = .ok (.aload_n 0, 1) := by decide +kernel
theorem dX0_find_34 : decode cX0_find 34 = .ok (.iload 4, 2) := by decide +kernel
theorem dX0_find_36 : decode cX0_find 36 = .ok (.iload_n 2, 1) := by decide +kernel
theorem dX0_find_37 : decode cX0_find 37 = .ok (.iload_n 2, 1) := by decide +kernel
theorem dX0_find_38 : decode cX0_find 38 = .ok (.iconst 1, 1) := by decide +kernel
theorem dX0_find_39 : decode cX0_find 39 = .ok (.iadd, 1) := by decide +kernel
theorem dX0_find_40 : decode cX0_find 40 = .ok (.invokevirtual 37, 3) := by decide +kernel
theorem dX0_find_43 : decode cX0_find 43 = .ok (.ifCond .le 6, 3) := by decide +kernel
theorem dX0_find_46 : decode cX0_find 46 = .ok (.iload 4, 2) := by decide +kernel
theorem dX0_find_48 : decode cX0_find 48 = .ok (.ireturn, 1) := by decide +kernel
theorem dX0_find_49 : decode cX0_find 49 = .ok (.iinc 4 1, 3) := by decide +kernel
theorem dX0_find_52 : decode cX0_find 52 = .ok (.goto (-49), 3) := by decide +kernel
theorem dX0_find_55 : decode cX0_find 55 = .ok (.iconst (-1), 1) := by decide +kernel
theorem dX0_find_56 : decode cX0_find 56 = .ok (.ireturn, 1) := by decide +kernel
theorem dX0_countDays_0 : decode cX0_countDays 0 = .ok (.iconst 0, 1) := by decide +kernel
theorem dX0_countDays_1 : decode cX0_countDays 1 = .ok (.istore 5, 2) := by decide +kernel
theorem dX0_countDays_3 : decode cX0_countDays 3 = .ok (.iconst 0, 1) := by decide +kernel
theorem dX0_countDays_4 : decode cX0_countDays 4 = .ok (.istore 6, 2) := by decide +kernel
theorem dX0_countDays_6 : decode cX0_countDays 6 = .ok (.iload 6, 2) := by decide +kernel
theorem dX0_countDays_8 : decode cX0_countDays 8 = .ok (.aload_n 0, 1) := by decide +kernel
theorem dX0_countDays_9 : decode cX0_countDays 9 = .ok (.getfield 30, 3) := by decide +kernel
theorem dX0_countDays_12 : decode cX0_countDays 12 = .ok (.if_icmp .ge 44, 3) := by decide +kernel
theorem dX0_countDays_15 : decode cX0_countDays 15 = .ok (.aload_n 0, 1) := by decide +kernel
theorem dX0_countDays_16 : decode cX0_countDays 16 = .ok (.getfield 9, 3) := by decide +kernel
theorem dX0_countDays_19 : decode cX0_countDays 19 = .ok (.iload 6, 2) := by decide +kernel
theorem dX0_countDays_21 : decode cX0_countDays 21 = .ok (.iaload, 1) := by decide +kernel
theorem dX0_countDays_22 : decode cX0_countDays 22 = .ok (.iload_n 1, 1) := by decide +kernel
theorem dX0_countDays_23 : decode cX0_countDays 23 = .ok (.if_icmp .ne 27, 3) := by decide +kernel
theorem dX0_countDays_26 : decode cX0_countDays 26 = .ok (.aload_n 0, 1) := by decide +kernel
theorem dX0_countDays_27 : decode cX0_countDays 27 = .ok (.iload 6, 2) := by decide +kernel
theorem dX0_countDays_29 : decode cX0_countDays 29 = .ok (.iload 4, 2) := by decide +kernel
theorem dX0_countDays_31 : decode cX0_countDays 31 = .ok (.invokevirtual 55, 3) := by decide +kernel
theorem dX0_countDays_34 : decode cX0_countDays 34 = .ok (.ifCond .eq 16, 3) := by decide +kernel
theorem dX0_countDays_37 : decode cX0_countDays 37 = .ok (.iload 5, 2) := by decide +kernel
theorem dX0_countDays_39 : decode cX0_countDays 39 = .ok (.aload_n 0, 1) := by decide +kernel
theorem dX0_countDays_40 : decode cX0_countDays 40 = .ok (.iload 6, 2) := by decide +kernel
theorem dX0_countDays_42 : decode cX0_countDays 42 = .ok (.iload_n 2, 1) := by decide +kernel
theorem dX0_countDays_43 : decode cX0_countDays 43 = .ok (.iload_n 3, 1) := by decide +kernel
theorem dX0_countDays_44 : decode cX0_countDays 44 = .ok (.invokevirtual 37, 3) := by decide +kernel
theorem dX0_countDays_47 : decode cX0_countDays 47 = .ok (.iadd, 1) := by decide +kernel
theorem dX0_countDays_48 : decode cX0_countDays 48 = .ok (.istore 5, 2) := by decide +kernel
theorem dX0_countDays_50 : decode cX0_countDays 50 = .ok (.iinc 6 1, 3) := by decide +kernel
theorem dX0_countDays_53 : decode cX0_countDays 53 = .ok (.goto (-47), 3) := by decide +kernel
theorem dX0_countDays_56 : decode cX0_countDays 56 = .ok (.iload 5, 2) := by decide +kernel
theorem dX0_countDays_58 : decode cX0_countDays 58 = .ok (.ireturn, 1) := by decide +kernel
theorem dX0_readInto_0 : decode cX0_readInto 0 = .ok (.aload_n 1, 1) := by decide +kernel
theorem dX0_readInto_1 : decode cX0_readInto 1 = .ok (.invokevirtual 59, 3) := by decide +kernel
theorem dX0_readInto_4 : decode cX0_readInto 4 = .ok (.iconst 0, 1) := by decide +kernel
theorem dX0_readInto_5 : decode cX0_readInto 5 = .ok (.istore 4, 2) := by decide +kernel
theorem dX0_readInto_7 : decode cX0_readInto 7 = .ok (.iload 4, 2) := by decide +kernel
theorem dX0_readInto_9 : decode cX0_readInto 9 = .ok (.aload_n 0, 1) := by decide +kernel
theorem dX0_readInto_10 : decode cX0_readInto 10 = .ok (.getfield 30, 3) := by decide +kernel
theorem dX0_readInto_13 : decode cX0_readInto 13 = .ok (.if_icmp .ge 56, 3) := by decide +kernel
theorem dX0_readInto_16 : decode cX0_readInto 16 = .ok (.aload_n 0, 1) := by decide +kernel
theorem dX0_readInto_17 : decode cX0_readInto 17 = .ok (.getfield 9, 3) := by decide +kernel
theorem dX0_readInto_20 : decode cX0_readInto 20 = .ok (.iload 4, 2) := by decide +kernel
theorem dX0_readInto_22 : decode cX0_readInto 22 = .ok (.iaload, 1) := by decide +kernel
theorem dX0_readInto_23 : decode cX0_readInto 23 = .ok (.iload_n 2, 1) := by decide +kernel
theorem dX0_readInto_24 : decode cX0_readInto 24 = .ok (.if_icmp .ne 39, 3) := by decide +kernel
theorem dX0_readInto_27 : decode cX0_readInto 27 = .ok (.aload_n 0, 1) := by decide +kernel
theorem dX0_readInto_28 : decode cX0_readInto 28 = .ok (.iload 4, 2) := by decide +kernel
theorem dX0_readInto_30 : decode cX0_readInto 30 = .ok (.iload_n 3, 1) := by decide +kernel
theorem dX0_readInto_31 : decode cX0_readInto 31 = .ok (.invokevirtual 55, 3) := by decide +kernel
theorem dX0_readInto_34 : decode cX0_readInto 34 = .ok (.ifCond .eq 29, 3) := by decide +kernel
theorem dX0_readInto_37 : decode cX0_readInto 37 = .ok (.aload_n 1, 1) := by decide +kernel
theorem dX0_readInto_38 : decode cX0_readInto 38 = .ok (.aload_n 0, 1) := by decide +kernel
theorem dX0_readInto_39 : decode cX0_readInto 39 = .ok (.getfield 18, 3) := by decide +kernel
theorem dX0_readInto_42 : decode cX0_readInto 42 = .ok (.iload 4, 2) := by decide +kernel
theorem dX0_readInto_44 : decode cX0_readInto 44 = .ok (.iaload, 1) := by decide +kernel
theorem dX0_readInto_45 : decode cX0_readInto 45 = .ok (.aload_n 0, 1) := by decide +kernel
theorem dX0_readInto_46 : decode cX0_readInto 46 = .ok (.getfield 21, 3) := by decide +kernel
theorem dX0_readInto_49 : decode cX0_readInto 49 = .ok (.iload 4, 2) := by decide +kernel
theorem dX0_readInto_51 : decode cX0_readInto 51 = .ok (.iaload, 1) := by decide +kernel
theorem dX0_readInto_52 : decode cX0_readInto 52 = .ok (.iconst 1, 1) := by decide +kernel
theorem dX0_readInto_53 : decode cX0_readInto 53 = .ok (.aload_n 0, 1) := by decide +kernel
theorem dX0_readInto_54 : decode cX0_readInto 54 = .ok (.getfield 15, 3) := by decide +kernel
theorem dX0_readInto_57 : decode cX0_readInto 57 = .ok (.iload 4, 2) := by decide +kernel
theorem dX0_readInto_59 : decode cX0_readInto 59 = .ok (.iaload, 1) := by decide +kernel
theorem dX0_readInto_60 : decode cX0_readInto 60 = .ok (.invokevirtual 64, 3) := by decide +kernel
theorem dX0_readInto_63 : decode cX0_readInto 63 = .ok (.iinc 4 1, 3) := by decide +kernel
theorem dX0_readInto_66 : decode cX0_readInto 66 = .ok (.goto (-59), 3) := by decide +kernel
theorem dX0_readInto_69 : decode cX0_readInto 69 = .ok (.return_, 1) := by decide +kernel
theorem dX0_countKept_0 : decode cX0_countKept 0 = .ok (.iconst 0, 1) := by decide +kernel
theorem dX0_countKept_1 : decode cX0_countKept 1 = .ok (.istore_n 1, 1) := by decide +kernel
theorem dX0_countKept_2 : decode cX0_countKept 2 = .ok (.iconst 0, 1) := by decide +kernel
theorem dX0_countKept_3 : decode cX0_countKept 3 = .ok (.istore_n 2, 1) := by decide +kernel
theorem dX0_countKept_4 : decode cX0_countKept 4 = .ok (.iload_n 2, 1) := by decide +kernel
theorem dX0_countKept_5 : decode cX0_countKept 5 = .ok (.aload_n 0, 1) := by decide +kernel
theorem dX0_countKept_6 : decode cX0_countKept 6 = .ok (.getfield 30, 3) := by decide +kernel
theorem dX0_countKept_9 : decode cX0_countKept 9 = .ok (.if_icmp .ge 25, 3) := by decide +kernel
theorem dX0_countKept_12 : decode cX0_countKept 12 = .ok (.iload_n 1, 1) := by decide +kernel
theorem dX0_countKept_13 : decode cX0_countKept 13 = .ok (.aload_n 0, 1) := by decide +kernel
theorem dX0_countKept_14 : decode cX0_countKept 14 = .ok (.iload_n 2, 1) := by decide +kernel
theorem dX0_countKept_15 : decode cX0_countKept 15 = .ok (.invokevirtual 68, 3) := by decide +kernel
theorem dX0_countKept_18 : decode cX0_countKept 18 = .ok (.ifCond .eq 7, 3) := by decide +kernel
theorem dX0_countKept_21 : decode cX0_countKept 21 = .ok (.iconst 1, 1) := by decide +kernel
theorem dX0_countKept_22 : decode cX0_countKept 22 = .ok (.goto 4, 3) := by decide +kernel
theorem dX0_countKept_25 : decode cX0_countKept 25 = .ok (.iconst 0, 1) := by decide +kernel
theorem dX0_countKept_26 : decode cX0_countKept 26 = .ok (.iadd, 1) := by decide +kernel
theorem dX0_countKept_27 : decode cX0_countKept 27 = .ok (.istore_n 1, 1) := by decide +kernel
theorem dX0_countKept_28 : decode cX0_countKept 28 = .ok (.iinc 2 1, 3) := by decide +kernel
theorem dX0_countKept_31 : decode cX0_countKept 31 = .ok (.goto (-27), 3) := by decide +kernel
theorem dX0_countKept_34 : decode cX0_countKept 34 = .ok (.iload_n 1, 1) := by decide +kernel
theorem dX0_countKept_35 : decode cX0_countKept 35 = .ok (.ireturn, 1) := by decide +kernel
theorem dX0_countOpen_0 : decode cX0_countOpen 0 = .ok (.iconst 0, 1) := by decide +kernel
theorem dX0_countOpen_1 : decode cX0_countOpen 1 = .ok (.istore_n 1, 1) := by decide +kernel
theorem dX0_countOpen_2 : decode cX0_countOpen 2 = .ok (.iconst 0, 1) := by decide +kernel
theorem dX0_countOpen_3 : decode cX0_countOpen 3 = .ok (.istore_n 2, 1) := by decide +kernel
theorem dX0_countOpen_4 : decode cX0_countOpen 4 = .ok (.iload_n 2, 1) := by decide +kernel
theorem dX0_countOpen_5 : decode cX0_countOpen 5 = .ok (.aload_n 0, 1) := by decide +kernel
theorem dX0_countOpen_6 : decode cX0_countOpen 6 = .ok (.getfield 30, 3) := by decide +kernel
theorem dX0_countOpen_9 : decode cX0_countOpen 9 = .ok (.if_icmp .ge 27, 3) := by decide +kernel
theorem dX0_countOpen_12 : decode cX0_countOpen 12 = .ok (.iload_n 1, 1) := by decide +kernel
theorem dX0_countOpen_13 : decode cX0_countOpen 13 = .ok (.aload_n 0, 1) := by decide +kernel
theorem dX0_countOpen_14 : decode cX0_countOpen 14 = .ok (.getfield 27, 3) := by decide +kernel
theorem dX0_countOpen_17 : decode cX0_countOpen 17 = .ok (.iload_n 2, 1) := by decide +kernel
theorem dX0_countOpen_18 : decode cX0_countOpen 18 = .ok (.iaload, 1) := by decide +kernel
theorem dX0_countOpen_19 : decode cX0_countOpen 19 = .ok (.iconst (-1), 1) := by decide +kernel
theorem dX0_countOpen_20 : decode cX0_countOpen 20 = .ok (.if_icmp .ne 7, 3) := by decide +kernel
theorem dX0_countOpen_23 : decode cX0_countOpen 23 = .ok (.iconst 1, 1) := by decide +kernel
theorem dX0_countOpen_24 : decode cX0_countOpen 24 = .ok (.goto 4, 3) := by decide +kernel
theorem dX0_countOpen_27 : decode cX0_countOpen 27 = .ok (.iconst 0, 1) := by decide +kernel
theorem dX0_countOpen_28 : decode cX0_countOpen 28 = .ok (.iadd, 1) := by decide +kernel
theorem dX0_countOpen_29 : decode cX0_countOpen 29 = .ok (.istore_n 1, 1) := by decide +kernel
theorem dX0_countOpen_30 : decode cX0_countOpen 30 = .ok (.iinc 2 1, 3) := by decide +kernel
theorem dX0_countOpen_33 : decode cX0_countOpen 33 = .ok (.goto (-29), 3) := by decide +kernel
theorem dX0_countOpen_36 : decode cX0_countOpen 36 = .ok (.iload_n 1, 1) := by decide +kernel
theorem dX0_countOpen_37 : decode cX0_countOpen 37 = .ok (.ireturn, 1) := by decide +kernel
theorem dX0_remove_0 : decode cX0_remove 0 = .ok (.aload_n 0, 1) := by decide +kernel
theorem dX0_remove_1 : decode cX0_remove 1 = .ok (.invokevirtual 72, 3) := by decide +kernel
theorem dX0_remove_4 : decode cX0_remove 4 = .ok (.istore_n 2, 1) := by decide +kernel
theorem dX0_remove_5 : decode cX0_remove 5 = .ok (.aload_n 0, 1) := by decide +kernel
theorem dX0_remove_6 : decode cX0_remove 6 = .ok (.iload_n 1, 1) := by decide +kernel
theorem dX0_remove_7 : decode cX0_remove 7 = .ok (.putfield 34, 3) := by decide +kernel
theorem dX0_remove_10 : decode cX0_remove 10 = .ok (.iload_n 2, 1) := by decide +kernel
theorem dX0_remove_11 : decode cX0_remove 11 = .ok (.aload_n 0, 1) := by decide +kernel
theorem dX0_remove_12 : decode cX0_remove 12 = .ok (.invokevirtual 72, 3) := by decide +kernel
theorem dX0_remove_15 : decode cX0_remove 15 = .ok (.isub, 1) := by decide +kernel
theorem dX0_remove_16 : decode cX0_remove 16 = .ok (.ireturn, 1) := by decide +kernel
theorem dX0_oldestTick_0 : decode cX0_oldestTick 0 = .ok (.aload_n 0, 1) := by decide +kernel
theorem dX0_oldestTick_1 : decode cX0_oldestTick 1 = .ok (.getfield 34, 3) := by decide +kernel
theorem dX0_oldestTick_4 : decode cX0_oldestTick 4 = .ok (.ireturn, 1) := by decide +kernel
theorem dX0_isKept_0 : decode cX0_isKept 0 = .ok (.iload_n 1, 1) := by decide +kernel
theorem dX0_isKept_1 : decode cX0_isKept 1 = .ok (.ifCond .lt 38, 3) := by decide +kernel
theorem dX0_isKept_4 : decode cX0_isKept 4 = .ok (.iload_n 1, 1) := by decide +kernel
theorem dX0_isKept_5 : decode cX0_isKept 5 = .ok (.aload_n 0, 1) := by decide +kernel
theorem dX0_isKept_6 : decode cX0_isKept 6 = .ok (.getfield 30, 3) := by decide +kernel
theorem dX0_isKept_9 : decode cX0_isKept 9 = .ok (.if_icmp .ge 30, 3) := by decide +kernel
theorem dX0_isKept_12 : decode cX0_isKept 12 = .ok (.aload_n 0, 1) := by decide +kernel
theorem dX0_isKept_13 : decode cX0_isKept 13 = .ok (.getfield 27, 3) := by decide +kernel
theorem dX0_isKept_16 : decode cX0_isKept 16 = .ok (.iload_n 1, 1) := by decide +kernel
theorem dX0_isKept_17 : decode cX0_isKept 17 = .ok (.iaload, 1) := by decide +kernel
theorem dX0_isKept_18 : decode cX0_isKept 18 = .ok (.iconst (-1), 1) := by decide +kernel
theorem dX0_isKept_19 : decode cX0_isKept 19 = .ok (.if_icmp .eq 16, 3) := by decide +kernel
theorem dX0_isKept_22 : decode cX0_isKept 22 = .ok (.aload_n 0, 1) := by decide +kernel
theorem dX0_isKept_23 : decode cX0_isKept 23 = .ok (.getfield 27, 3) := by decide +kernel
theorem dX0_isKept_26 : decode cX0_isKept 26 = .ok (.iload_n 1, 1) := by decide +kernel
theorem dX0_isKept_27 : decode cX0_isKept 27 = .ok (.iaload, 1) := by decide +kernel
theorem dX0_isKept_28 : decode cX0_isKept 28 = .ok (.aload_n 0, 1) := by decide +kernel
theorem dX0_isKept_29 : decode cX0_isKept 29 = .ok (.getfield 34, 3) := by decide +kernel
theorem dX0_isKept_32 : decode cX0_isKept 32 = .ok (.if_icmp .le 7, 3) := by decide +kernel
theorem dX0_isKept_35 : decode cX0_isKept 35 = .ok (.iconst 1, 1) := by decide +kernel
theorem dX0_isKept_36 : decode cX0_isKept 36 = .ok (.goto 4, 3) := by decide +kernel
theorem dX0_isKept_39 : decode cX0_isKept 39 = .ok (.iconst 0, 1) := by decide +kernel
theorem dX0_isKept_40 : decode cX0_isKept 40 = .ok (.ireturn, 1) := by decide +kernel
theorem dX0_value_0 : decode cX0_value 0 = .ok (.aload_n 0, 1) := by decide +kernel
theorem dX0_value_1 : decode cX0_value 1 = .ok (.getfield 15, 3) := by decide +kernel
theorem dX0_value_4 : decode cX0_value 4 = .ok (.iload_n 1, 1) := by decide +kernel
theorem dX0_value_5 : decode cX0_value 5 = .ok (.invokestatic 76, 3) := by decide +kernel
theorem dX0_value_8 : decode cX0_value 8 = .ok (.ireturn, 1) := by decide +kernel
theorem dX0_firstDay_0 : decode cX0_firstDay 0 = .ok (.aload_n 0, 1) := by decide +kernel
theorem dX0_firstDay_1 : decode cX0_firstDay 1 = .ok (.getfield 18, 3) := by decide +kernel
theorem dX0_firstDay_4 : decode cX0_firstDay 4 = .ok (.iload_n 1, 1) := by decide +kernel
theorem dX0_firstDay_5 : decode cX0_firstDay 5 = .ok (.invokestatic 76, 3) := by decide +kernel
theorem dX0_firstDay_8 : decode cX0_firstDay 8 = .ok (.ireturn, 1) := by decide +kernel
theorem dX0_dayAfter_0 : decode cX0_dayAfter 0 = .ok (.aload_n 0, 1) := by decide +kernel
theorem dX0_dayAfter_1 : decode cX0_dayAfter 1 = .ok (.getfield 21, 3) := by decide +kernel
theorem dX0_dayAfter_4 : decode cX0_dayAfter 4 = .ok (.iload_n 1, 1) := by decide +kernel
theorem dX0_dayAfter_5 : decode cX0_dayAfter 5 = .ok (.invokestatic 76, 3) := by decide +kernel
theorem dX0_dayAfter_8 : decode cX0_dayAfter 8 = .ok (.ireturn, 1) := by decide +kernel
theorem dX0_opening_0 : decode cX0_opening 0 = .ok (.aload_n 0, 1) := by decide +kernel
theorem dX0_opening_1 : decode cX0_opening 1 = .ok (.getfield 24, 3) := by decide +kernel
theorem dX0_opening_4 : decode cX0_opening 4 = .ok (.iload_n 1, 1) := by decide +kernel
theorem dX0_opening_5 : decode cX0_opening 5 = .ok (.invokestatic 76, 3) := by decide +kernel
theorem dX0_opening_8 : decode cX0_opening 8 = .ok (.ireturn, 1) := by decide +kernel
theorem dX0_closing_0 : decode cX0_closing 0 = .ok (.aload_n 0, 1) := by decide +kernel
theorem dX0_closing_1 : decode cX0_closing 1 = .ok (.getfield 27, 3) := by decide +kernel
theorem dX0_closing_4 : decode cX0_closing 4 = .ok (.iload_n 1, 1) := by decide +kernel
theorem dX0_closing_5 : decode cX0_closing 5 = .ok (.invokestatic 76, 3) := by decide +kernel
theorem dX0_closing_8 : decode cX0_closing 8 = .ok (.ireturn, 1) := by decide +kernel
theorem dX0_isLive_0 : decode cX0_isLive 0 = .ok (.aload_n 0, 1) := by decide +kernel
theorem dX0_isLive_1 : decode cX0_isLive 1 = .ok (.getfield 24, 3) := by decide +kernel
theorem dX0_isLive_4 : decode cX0_isLive 4 = .ok (.iload_n 1, 1) := by decide +kernel
theorem dX0_isLive_5 : decode cX0_isLive 5 = .ok (.invokestatic 76, 3) := by decide +kernel
theorem dX0_isLive_8 : decode cX0_isLive 8 = .ok (.iload_n 2, 1) := by decide +kernel
theorem dX0_isLive_9 : decode cX0_isLive 9 = .ok (.if_icmp .gt 31, 3) := by decide +kernel
theorem dX0_isLive_12 : decode cX0_isLive 12 = .ok (.aload_n 0, 1) := by decide +kernel
theorem dX0_isLive_13 : decode cX0_isLive 13 = .ok (.getfield 27, 3) := by decide +kernel
theorem dX0_isLive_16 : decode cX0_isLive 16 = .ok (.iload_n 1, 1) := by decide +kernel
theorem dX0_isLive_17 : decode cX0_isLive 17 = .ok (.invokestatic 76, 3) := by decide +kernel
theorem dX0_isLive_20 : decode cX0_isLive 20 = .ok (.iconst (-1), 1) := by decide +kernel
theorem dX0_isLive_21 : decode cX0_isLive 21 = .ok (.if_icmp .eq 15, 3) := by decide +kernel
theorem dX0_isLive_24 : decode cX0_isLive 24 = .ok (.aload_n 0, 1) := by decide +kernel
theorem dX0_isLive_25 : decode cX0_isLive 25 = .ok (.getfield 27, 3) := by decide +kernel
theorem dX0_isLive_28 : decode cX0_isLive 28 = .ok (.iload_n 1, 1) := by decide +kernel
theorem dX0_isLive_29 : decode cX0_isLive 29 = .ok (.invokestatic 76, 3) := by decide +kernel
theorem dX0_isLive_32 : decode cX0_isLive 32 = .ok (.iload_n 2, 1) := by decide +kernel
theorem dX0_isLive_33 : decode cX0_isLive 33 = .ok (.if_icmp .le 7, 3) := by decide +kernel
theorem dX0_isLive_36 : decode cX0_isLive 36 = .ok (.iconst 1, 1) := by decide +kernel
theorem dX0_isLive_37 : decode cX0_isLive 37 = .ok (.goto 4, 3) := by decide +kernel
theorem dX0_isLive_40 : decode cX0_isLive 40 = .ok (.iconst 0, 1) := by decide +kernel
theorem dX0_isLive_41 : decode cX0_isLive 41 = .ok (.ireturn, 1) := by decide +kernel
theorem dX0_daysWithin_0 : decode cX0_daysWithin 0 = .ok (.aload_n 0, 1) := by decide +kernel
theorem dX0_daysWithin_1 : decode cX0_daysWithin 1 = .ok (.iload_n 1, 1) := by decide +kernel
theorem dX0_daysWithin_2 : decode cX0_daysWithin 2 = .ok (.invokevirtual 45, 3) := by decide +kernel
theorem dX0_daysWithin_5 : decode cX0_daysWithin 5 = .ok (.iload_n 2, 1) := by decide +kernel
theorem dX0_daysWithin_6 : decode cX0_daysWithin 6 = .ok (.invokestatic 80, 3) := by decide +kernel
theorem dX0_daysWithin_9 : decode cX0_daysWithin 9 = .ok (.istore 4, 2) := by decide +kernel
theorem dX0_daysWithin_11 : decode cX0_daysWithin 11 = .ok (.aload_n 0, 1) := by decide +kernel
theorem dX0_daysWithin_12 : decode cX0_daysWithin 12 = .ok (.iload_n 1, 1) := by decide +kernel
theorem dX0_daysWithin_13 : decode cX0_daysWithin 13 = .ok (.invokevirtual 52, 3) := by decide +kernel
theorem dX0_daysWithin_16 : decode cX0_daysWithin 16 = .ok (.iload_n 3, 1) := by decide +kernel
theorem dX0_daysWithin_17 : decode cX0_daysWithin 17 = .ok (.invokestatic 86, 3) := by decide +kernel
theorem dX0_daysWithin_20 : decode cX0_daysWithin 20 = .ok (.istore 5, 2) := by decide +kernel
theorem dX0_daysWithin_22 : decode cX0_daysWithin 22 = .ok (.iload 5, 2) := by decide +kernel
theorem dX0_daysWithin_24 : decode cX0_daysWithin 24 = .ok (.iload 4, 2) := by decide +kernel
theorem dX0_daysWithin_26 : decode cX0_daysWithin 26 = .ok (.isub, 1) := by decide +kernel
theorem dX0_daysWithin_27 : decode cX0_daysWithin 27 = .ok (.iconst 0, 1) := by decide +kernel
theorem dX0_daysWithin_28 : decode cX0_daysWithin 28 = .ok (.invokestatic 80, 3) := by decide +kernel
theorem dX0_daysWithin_31 : decode cX0_daysWithin 31 = .ok (.ireturn, 1) := by decide +kernel
theorem dX0_cell_0 : decode cX0_cell 0 = .ok (.iload_n 1, 1) := by decide +kernel
theorem dX0_cell_1 : decode cX0_cell 1 = .ok (.ifCond .lt 15, 3) := by decide +kernel
theorem dX0_cell_4 : decode cX0_cell 4 = .ok (.iload_n 1, 1) := by decide +kernel
theorem dX0_cell_5 : decode cX0_cell 5 = .ok (.aload_n 0, 1) := by decide +kernel
theorem dX0_cell_6 : decode cX0_cell 6 = .ok (.arraylength, 1) := by decide +kernel
theorem dX0_cell_7 : decode cX0_cell 7 = .ok (.if_icmp .ge 9, 3) := by decide +kernel
theorem dX0_cell_10 : decode cX0_cell 10 = .ok (.aload_n 0, 1) := by decide +kernel
theorem dX0_cell_11 : decode cX0_cell 11 = .ok (.iload_n 1, 1) := by decide +kernel
theorem dX0_cell_12 : decode cX0_cell 12 = .ok (.iaload, 1) := by decide +kernel
theorem dX0_cell_13 : decode cX0_cell 13 = .ok (.goto 4, 3) := by decide +kernel
theorem dX0_cell_16 : decode cX0_cell 16 = .ok (.iconst (-1), 1) := by decide +kernel
theorem dX0_cell_17 : decode cX0_cell 17 = .ok (.ireturn, 1) := by decide +kernel
theorem dX1_init_0 : decode cX1_init 0 = .ok (.aload_n 0, 1) := by decide +kernel
theorem dX1_init_1 : decode cX1_init 1 = .ok (.invokespecial 3, 3) := by decide +kernel
theorem dX1_init_4 : decode cX1_init 4 = .ok (.aload_n 0, 1) := by decide +kernel
theorem dX1_init_5 : decode cX1_init 5 = .ok (.bipush 100, 2) := by decide +kernel
theorem dX1_init_7 : decode cX1_init 7 = .ok (.newarray .boolean, 2) := by decide +kernel
theorem dX1_init_9 : decode cX1_init 9 = .ok (.putfield 9, 3) := by decide +kernel
theorem dX1_init_12 : decode cX1_init 12 = .ok (.aload_n 0, 1) := by decide +kernel
theorem dX1_init_13 : decode cX1_init 13 = .ok (.bipush 100, 2) := by decide +kernel
theorem dX1_init_15 : decode cX1_init 15 = .ok (.newarray .int, 2) := by decide +kernel
theorem dX1_init_17 : decode cX1_init 17 = .ok (.putfield 15, 3) := by decide +kernel
theorem dX1_init_20 : decode cX1_init 20 = .ok (.return_, 1) := by decide +kernel
theorem dX1_forget_0 : decode cX1_forget 0 = .ok (.aload_n 0, 1) := by decide +kernel
theorem dX1_forget_1 : decode cX1_forget 1 = .ok (.iconst 0, 1) := by decide +kernel
theorem dX1_forget_2 : decode cX1_forget 2 = .ok (.bipush 100, 2) := by decide +kernel
theorem dX1_forget_4 : decode cX1_forget 4 = .ok (.iconst 0, 1) := by decide +kernel
theorem dX1_forget_5 : decode cX1_forget 5 = .ok (.iconst 0, 1) := by decide +kernel
theorem dX1_forget_6 : decode cX1_forget 6 = .ok (.invokevirtual 19, 3) := by decide +kernel
theorem dX1_forget_9 : decode cX1_forget 9 = .ok (.return_, 1) := by decide +kernel
theorem dX1_put_0 : decode cX1_put 0 = .ok (.iload_n 1, 1) := by decide +kernel
theorem dX1_put_1 : decode cX1_put 1 = .ok (.iconst 0, 1) := by decide +kernel
theorem dX1_put_2 : decode cX1_put 2 = .ok (.invokestatic 23, 3) := by decide +kernel
theorem dX1_put_5 : decode cX1_put 5 = .ok (.istore 5, 2) := by decide +kernel
theorem dX1_put_7 : decode cX1_put 7 = .ok (.iload 5, 2) := by decide +kernel
theorem dX1_put_9 : decode cX1_put 9 = .ok (.iload_n 2, 1) := by decide +kernel
theorem dX1_put_10 : decode cX1_put 10 = .ok (.if_icmp .ge 33, 3) := by decide +kernel
theorem dX1_put_13 : decode cX1_put 13 = .ok (.iload 5, 2) := by decide +kernel
theorem dX1_put_15 : decode cX1_put 15 = .ok (.bipush 100, 2) := by decide +kernel
theorem dX1_put_17 : decode cX1_put 17 = .ok (.if_icmp .ge 26, 3) := by decide +kernel
theorem dX1_put_20 : decode cX1_put 20 = .ok (.aload_n 0, 1) := by decide +kernel
theorem dX1_put_21 : decode cX1_put 21 = .ok (.getfield 9, 3) := by decide +kernel
theorem dX1_put_24 : decode cX1_put 24 = .ok (.iload 5, 2) := by decide +kernel
theorem dX1_put_26 : decode cX1_put 26 = .ok (.iload_n 3, 1) := by decide +kernel
theorem dX1_put_27 : decode cX1_put 27 = .ok (.bastore, 1) := by decide +kernel
theorem dX1_put_28 : decode cX1_put 28 = .ok (.aload_n 0, 1) := by decide +kernel
theorem dX1_put_29 : decode cX1_put 29 = .ok (.getfield 15, 3) := by decide +kernel
theorem dX1_put_32 : decode cX1_put 32 = .ok (.iload 5, 2) := by decide +kernel
theorem dX1_put_34 : decode cX1_put 34 = .ok (.iload 4, 2) := by decide +kernel
theorem dX1_put_36 : decode cX1_put 36 = .ok (.iastore, 1) := by decide +kernel
theorem dX1_put_37 : decode cX1_put 37 = .ok (.iinc 5 1, 3) := by decide +kernel
theorem dX1_put_40 : decode cX1_put 40 = .ok (.goto (-33), 3) := by decide +kernel
theorem dX1_put_43 : decode cX1_put 43 = .ok (.return_, 1) := by decide +kernel
theorem dX1_has_0 : decode cX1_has 0 = .ok (.iload_n 1, 1) := by decide +kernel
theorem dX1_has_1 : decode cX1_has 1 = .ok (.ifCond .lt 22, 3) := by decide +kernel
theorem dX1_has_4 : decode cX1_has 4 = .ok (.iload_n 1, 1) := by decide +kernel
theorem dX1_has_5 : decode cX1_has 5 = .ok (.bipush 100, 2) := by decide +kernel
theorem dX1_has_7 : decode cX1_has 7 = .ok (.if_icmp .ge 16, 3) := by decide +kernel
theorem dX1_has_10 : decode cX1_has 10 = .ok (.aload_n 0, 1) := by decide +kernel
theorem dX1_has_11 : decode cX1_has 11 = .ok (.getfield 9, 3) := by decide +kernel
theorem dX1_has_14 : decode cX1_has 14 = .ok (.iload_n 1, 1) := by decide +kernel
theorem dX1_has_15 : decode cX1_has 15 = .ok (.baload, 1) := by decide +kernel
theorem dX1_has_16 : decode cX1_has 16 = .ok (.ifCond .eq 7, 3) := by decide +kernel
theorem dX1_has_19 : decode cX1_has 19 = .ok (.iconst 1, 1) := by decide +kernel
theorem dX1_has_20 : decode cX1_has 20 = .ok (.goto 4, 3) := by decide +kernel
theorem dX1_has_23 : decode cX1_has 23 = .ok (.iconst 0, 1) := by decide +kernel
theorem dX1_has_24 : decode cX1_has 24 = .ok (.ireturn, 1) := by decide +kernel
theorem dX1_value_0 : decode cX1_value 0 = .ok (.aload_n 0, 1) := by decide +kernel
theorem dX1_value_1 : decode cX1_value 1 = .ok (.iload_n 1, 1) := by decide +kernel
theorem dX1_value_2 : decode cX1_value 2 = .ok (.invokevirtual 29, 3) := by decide +kernel
theorem dX1_value_5 : decode cX1_value 5 = .ok (.ifCond .eq 12, 3) := by decide +kernel
theorem dX1_value_8 : decode cX1_value 8 = .ok (.aload_n 0, 1) := by decide +kernel
theorem dX1_value_9 : decode cX1_value 9 = .ok (.getfield 15, 3) := by decide +kernel
theorem dX1_value_12 : decode cX1_value 12 = .ok (.iload_n 1, 1) := by decide +kernel
theorem dX1_value_13 : decode cX1_value 13 = .ok (.iaload, 1) := by decide +kernel
theorem dX1_value_14 : decode cX1_value 14 = .ok (.goto 4, 3) := by decide +kernel
theorem dX1_value_17 : decode cX1_value 17 = .ok (.iconst 0, 1) := by decide +kernel
theorem dX1_value_18 : decode cX1_value 18 = .ok (.ireturn, 1) := by decide +kernel
theorem dX1_countCommon_0 : decode cX1_countCommon 0 = .ok (.iconst 0, 1) := by decide +kernel
theorem dX1_countCommon_1 : decode cX1_countCommon 1 = .ok (.istore_n 2, 1) := by decide +kernel
theorem dX1_countCommon_2 : decode cX1_countCommon 2 = .ok (.iconst 0, 1) := by decide +kernel
theorem dX1_countCommon_3 : decode cX1_countCommon 3 = .ok (.istore_n 3, 1) := by decide +kernel
theorem dX1_countCommon_4 : decode cX1_countCommon 4 = .ok (.iload_n 3, 1) := by decide +kernel
theorem dX1_countCommon_5 : decode cX1_countCommon 5 = .ok (.bipush 100, 2) := by decide +kernel
theorem dX1_countCommon_7 : decode cX1_countCommon 7 = .ok (.if_icmp .ge 33, 3) := by decide +kernel
theorem dX1_countCommon_10 : decode cX1_countCommon 10 = .ok (.iload_n 2, 1) := by decide +kernel
theorem dX1_countCommon_11 : decode cX1_countCommon 11 = .ok (.aload_n 0, 1) := by decide +kernel
theorem dX1_countCommon_12 : decode cX1_countCommon 12 = .ok (.iload_n 3, 1) := by decide +kernel
theorem dX1_countCommon_13 : decode cX1_countCommon 13 = .ok (.invokevirtual 29, 3) := by decide +kernel
theorem dX1_countCommon_16 : decode cX1_countCommon 16 = .ok (.ifCond .eq 15, 3) := by decide +kernel
theorem dX1_countCommon_19 : decode cX1_countCommon 19 = .ok (.aload_n 1, 1) := by decide +kernel
theorem dX1_countCommon_20 : decode cX1_countCommon 20 = .ok (.iload_n 3, 1) := by decide +kernel
theorem dX1_countCommon_21 : decode cX1_countCommon 21 = .ok (.invokevirtual 29, 3) := by decide +kernel
theorem dX1_countCommon_24 : decode cX1_countCommon 24 = .ok (.ifCond .eq 7, 3) := by decide +kernel
theorem dX1_countCommon_27 : decode cX1_countCommon 27 = .ok (.iconst 1, 1) := by decide +kernel
theorem dX1_countCommon_28 : decode cX1_countCommon 28 = .ok (.goto 4, 3) := by decide +kernel
theorem dX1_countCommon_31 : decode cX1_countCommon 31 = .ok (.iconst 0, 1) := by decide +kernel
theorem dX1_countCommon_32 : decode cX1_countCommon 32 = .ok (.iadd, 1) := by decide +kernel
theorem dX1_countCommon_33 : decode cX1_countCommon 33 = .ok (.istore_n 2, 1) := by decide +kernel
theorem dX1_countCommon_34 : decode cX1_countCommon 34 = .ok (.iinc 3 1, 3) := by decide +kernel
theorem dX1_countCommon_37 : decode cX1_countCommon 37 = .ok (.goto (-33), 3) := by decide +kernel
theorem dX1_countCommon_40 : decode cX1_countCommon 40 = .ok (.iload_n 2, 1) := by decide +kernel
theorem dX1_countCommon_41 : decode cX1_countCommon 41 = .ok (.ireturn, 1) := by decide +kernel
theorem dX1_countDifferent_0 : decode cX1_countDifferent 0 = .ok (.iconst 0, 1) := by decide +kernel
theorem dX1_countDifferent_1 : decode cX1_countDifferent 1 = .ok (.istore_n 2, 1) := by decide +kernel
theorem dX1_countDifferent_2 : decode cX1_countDifferent 2 = .ok (.iconst 0, 1) := by decide +kernel
theorem dX1_countDifferent_3 : decode cX1_countDifferent 3 = .ok (.istore_n 3, 1) := by decide +kernel
theorem dX1_countDifferent_4 : decode cX1_countDifferent 4 = .ok (.iload_n 3, 1) := by decide +kernel
theorem dX1_countDifferent_5 : decode cX1_countDifferent 5 = .ok (.bipush 100, 2) := by decide +kernel
theorem dX1_countDifferent_7 : decode cX1_countDifferent 7 = .ok (.if_icmp .ge 43, 3) := by decide +kernel
theorem dX1_countDifferent_10 : decode cX1_countDifferent 10 = .ok (.iload_n 2, 1) := by decide +kernel
theorem dX1_countDifferent_11 : decode cX1_countDifferent 11 = .ok (.aload_n 0, 1) := by decide +kernel
theorem dX1_countDifferent_12 : decode cX1_countDifferent 12 = .ok (.iload_n 3, 1) := by decide +kernel
theorem dX1_countDifferent_13 : decode cX1_countDifferent 13 = .ok (.invokevirtual 29, 3) := by decide +kernel
theorem dX1_countDifferent_16 : decode cX1_countDifferent 16 = .ok (.aload_n 1, 1) := by decide +kernel
theorem dX1_countDifferent_17 : decode cX1_countDifferent 17 = .ok (.iload_n 3, 1) := by decide +kernel
theorem dX1_countDifferent_18 : decode cX1_countDifferent 18 = .ok (.invokevirtual 29, 3) := by decide +kernel
theorem dX1_countDifferent_21 : decode cX1_countDifferent 21 = .ok (.if_icmp .ne 16, 3) := by decide +kernel
theorem dX1_countDifferent_24 : decode cX1_countDifferent 24 = .ok (.aload_n 0, 1) := by decide +kernel
theorem dX1_countDifferent_25 : decode cX1_countDifferent 25 = .ok (.iload_n 3, 1) := by decide +kernel
theorem dX1_countDifferent_26 : decode cX1_countDifferent 26 = .ok (.invokevirtual 33, 3) := by decide +kernel
theorem dX1_countDifferent_29 : decode cX1_countDifferent 29 = .ok (.aload_n 1, 1) := by decide +kernel
theorem dX1_countDifferent_30 : decode cX1_countDifferent 30 = .ok (.iload_n 3, 1) := by decide +kernel
theorem dX1_countDifferent_31 : decode cX1_countDifferent 31 = .ok (.invokevirtual 33, 3) := by decide +kernel
theorem dX1_countDifferent_34 : decode cX1_countDifferent 34 = .ok (.if_icmp .eq 7, 3) := by decide +kernel
theorem dX1_countDifferent_37 : decode cX1_countDifferent 37 = .ok (.iconst 1, 1) := by decide +kernel
theorem dX1_countDifferent_38 : decode cX1_countDifferent 38 = .ok (.goto 4, 3) := by decide +kernel
theorem dX1_countDifferent_41 : decode cX1_countDifferent 41 = .ok (.iconst 0, 1) := by decide +kernel
theorem dX1_countDifferent_42 : decode cX1_countDifferent 42 = .ok (.iadd, 1) := by decide +kernel
theorem dX1_countDifferent_43 : decode cX1_countDifferent 43 = .ok (.istore_n 2, 1) := by decide +kernel
theorem dX1_countDifferent_44 : decode cX1_countDifferent 44 = .ok (.iinc 3 1, 3) := by decide +kernel
theorem dX1_countDifferent_47 : decode cX1_countDifferent 47 = .ok (.goto (-43), 3) := by decide +kernel
theorem dX1_countDifferent_50 : decode cX1_countDifferent 50 = .ok (.iload_n 2, 1) := by decide +kernel
theorem dX1_countDifferent_51 : decode cX1_countDifferent 51 = .ok (.ireturn, 1) := by decide +kernel
theorem dX2_init_0 : decode cX2_init 0 = .ok (.aload_n 0, 1) := by decide +kernel
theorem dX2_init_1 : decode cX2_init 1 = .ok (.invokespecial 3, 3) := by decide +kernel
theorem dX2_init_4 : decode cX2_init 4 = .ok (.aload_n 0, 1) := by decide +kernel
theorem dX2_init_5 : decode cX2_init 5 = .ok (.sipush 1900, 3) := by decide +kernel
theorem dX2_init_8 : decode cX2_init 8 = .ok (.newarray .char, 2) := by decide +kernel
theorem dX2_init_10 : decode cX2_init 10 = .ok (.putfield 9, 3) := by decide +kernel
theorem dX2_init_13 : decode cX2_init 13 = .ok (.aload_n 0, 1) := by decide +kernel
theorem dX2_init_14 : decode cX2_init 14 = .ok (.iconst 0, 1) := by decide +kernel
theorem dX2_init_15 : decode cX2_init 15 = .ok (.putfield 15, 3) := by decide +kernel
theorem dX2_init_18 : decode cX2_init 18 = .ok (.return_, 1) := by decide +kernel
theorem dX3_init_0 : decode cX3_init 0 = .ok (.aload_n 0, 1) := by decide +kernel
theorem dX3_init_1 : decode cX3_init 1 = .ok (.invokespecial 3, 3) := by decide +kernel
theorem dX3_init_4 : decode cX3_init 4 = .ok (.aload_n 0, 1) := by decide +kernel
theorem dX3_init_5 : decode cX3_init 5 = .ok (.bipush 61, 2) := by decide +kernel
theorem dX3_init_7 : decode cX3_init 7 = .ok (.newarray .char, 2) := by decide +kernel
theorem dX3_init_9 : decode cX3_init 9 = .ok (.putfield 9, 3) := by decide +kernel
theorem dX3_init_12 : decode cX3_init 12 = .ok (.aload_n 0, 1) := by decide +kernel
theorem dX3_init_13 : decode cX3_init 13 = .ok (.bipush 61, 2) := by decide +kernel
theorem dX3_init_15 : decode cX3_init 15 = .ok (.newarray .int, 2) := by decide +kernel
theorem dX3_init_17 : decode cX3_init 17 = .ok (.putfield 15, 3) := by decide +kernel
theorem dX3_init_20 : decode cX3_init 20 = .ok (.aload_n 0, 1) := by decide +kernel
theorem dX3_init_21 : decode cX3_init 21 = .ok (.bipush 61, 2) := by decide +kernel
theorem dX3_init_23 : decode cX3_init 23 = .ok (.newarray .int, 2) := by decide +kernel
theorem dX3_init_25 : decode cX3_init 25 = .ok (.putfield 19, 3) := by decide +kernel
theorem dX3_init_28 : decode cX3_init 28 = .ok (.aload_n 0, 1) := by decide +kernel
theorem dX3_init_29 : decode cX3_init 29 = .ok (.bipush 61, 2) := by decide +kernel
theorem dX3_init_31 : decode cX3_init 31 = .ok (.newarray .int, 2) := by decide +kernel
theorem dX3_init_33 : decode cX3_init 33 = .ok (.putfield 22, 3) := by decide +kernel
theorem dX3_init_36 : decode cX3_init 36 = .ok (.aload_n 0, 1) := by decide +kernel
theorem dX3_init_37 : decode cX3_init 37 = .ok (.bipush 61, 2) := by decide +kernel
theorem dX3_init_39 : decode cX3_init 39 = .ok (.newarray .int, 2) := by decide +kernel
theorem dX3_init_41 : decode cX3_init 41 = .ok (.putfield 25, 3) := by decide +kernel
theorem dX3_init_44 : decode cX3_init 44 = .ok (.aload_n 0, 1) := by decide +kernel
theorem dX3_init_45 : decode cX3_init 45 = .ok (.iconst 0, 1) := by decide +kernel
theorem dX3_init_46 : decode cX3_init 46 = .ok (.putfield 28, 3) := by decide +kernel
theorem dX3_init_49 : decode cX3_init 49 = .ok (.return_, 1) := by decide +kernel
theorem dX3_now_0 : decode cX3_now 0 = .ok (.aload_n 0, 1) := by decide +kernel
theorem dX3_now_1 : decode cX3_now 1 = .ok (.getfield 28, 3) := by decide +kernel
theorem dX3_now_4 : decode cX3_now 4 = .ok (.ireturn, 1) := by decide +kernel
theorem dX3_isFull_0 : decode cX3_isFull 0 = .ok (.aload_n 0, 1) := by decide +kernel
theorem dX3_isFull_1 : decode cX3_isFull 1 = .ok (.getfield 28, 3) := by decide +kernel
theorem dX3_isFull_4 : decode cX3_isFull 4 = .ok (.bipush 60, 2) := by decide +kernel
theorem dX3_isFull_6 : decode cX3_isFull 6 = .ok (.if_icmp .lt 7, 3) := by decide +kernel
theorem dX3_isFull_9 : decode cX3_isFull 9 = .ok (.iconst 1, 1) := by decide +kernel
theorem dX3_isFull_10 : decode cX3_isFull 10 = .ok (.goto 4, 3) := by decide +kernel
theorem dX3_isFull_13 : decode cX3_isFull 13 = .ok (.iconst 0, 1) := by decide +kernel
theorem dX3_isFull_14 : decode cX3_isFull 14 = .ok (.ireturn, 1) := by decide +kernel
theorem dX3_add_0 : decode cX3_add 0 = .ok (.aload_n 0, 1) := by decide +kernel
theorem dX3_add_1 : decode cX3_add 1 = .ok (.invokevirtual 32, 3) := by decide +kernel
theorem dX3_add_4 : decode cX3_add 4 = .ok (.ifCond .ne 65, 3) := by decide +kernel
theorem dX3_add_7 : decode cX3_add 7 = .ok (.aload_n 0, 1) := by decide +kernel
theorem dX3_add_8 : decode cX3_add 8 = .ok (.dup, 1) := by decide +kernel
theorem dX3_add_9 : decode cX3_add 9 = .ok (.getfield 28, 3) := by decide +kernel
theorem dX3_add_12 : decode cX3_add 12 = .ok (.iconst 1, 1) := by decide +kernel
theorem dX3_add_13 : decode cX3_add 13 = .ok (.iadd, 1) := by decide +kernel
theorem dX3_add_14 : decode cX3_add 14 = .ok (.putfield 28, 3) := by decide +kernel
theorem dX3_add_17 : decode cX3_add 17 = .ok (.aload_n 0, 1) := by decide +kernel
theorem dX3_add_18 : decode cX3_add 18 = .ok (.getfield 9, 3) := by decide +kernel
theorem dX3_add_21 : decode cX3_add 21 = .ok (.aload_n 0, 1) := by decide +kernel
theorem dX3_add_22 : decode cX3_add 22 = .ok (.getfield 28, 3) := by decide +kernel
theorem dX3_add_25 : decode cX3_add 25 = .ok (.iload_n 1, 1) := by decide +kernel
theorem dX3_add_26 : decode cX3_add 26 = .ok (.castore, 1) := by decide +kernel
theorem dX3_add_27 : decode cX3_add 27 = .ok (.aload_n 0, 1) := by decide +kernel
theorem dX3_add_28 : decode cX3_add 28 = .ok (.getfield 15, 3) := by decide +kernel
theorem dX3_add_31 : decode cX3_add 31 = .ok (.aload_n 0, 1) := by decide +kernel
theorem dX3_add_32 : decode cX3_add 32 = .ok (.getfield 28, 3) := by decide +kernel
theorem dX3_add_35 : decode cX3_add 35 = .ok (.iload_n 2, 1) := by decide +kernel
theorem dX3_add_36 : decode cX3_add 36 = .ok (.iastore, 1) := by decide +kernel
theorem dX3_add_37 : decode cX3_add 37 = .ok (.aload_n 0, 1) := by decide +kernel
theorem dX3_add_38 : decode cX3_add 38 = .ok (.getfield 19, 3) := by decide +kernel
theorem dX3_add_41 : decode cX3_add 41 = .ok (.aload_n 0, 1) := by decide +kernel
theorem dX3_add_42 : decode cX3_add 42 = .ok (.getfield 28, 3) := by decide +kernel
theorem dX3_add_45 : decode cX3_add 45 = .ok (.iload_n 3, 1) := by decide +kernel
theorem dX3_add_46 : decode cX3_add 46 = .ok (.iastore, 1) := by decide +kernel
theorem dX3_add_47 : decode cX3_add 47 = .ok (.aload_n 0, 1) := by decide +kernel
theorem dX3_add_48 : decode cX3_add 48 = .ok (.getfield 22, 3) := by decide +kernel
theorem dX3_add_51 : decode cX3_add 51 = .ok (.aload_n 0, 1) := by decide +kernel
theorem dX3_add_52 : decode cX3_add 52 = .ok (.getfield 28, 3) := by decide +kernel
theorem dX3_add_55 : decode cX3_add 55 = .ok (.iload 4, 2) := by decide +kernel
theorem dX3_add_57 : decode cX3_add 57 = .ok (.iastore, 1) := by decide +kernel
theorem dX3_add_58 : decode cX3_add 58 = .ok (.aload_n 0, 1) := by decide +kernel
theorem dX3_add_59 : decode cX3_add 59 = .ok (.getfield 25, 3) := by decide +kernel
theorem dX3_add_62 : decode cX3_add 62 = .ok (.aload_n 0, 1) := by decide +kernel
theorem dX3_add_63 : decode cX3_add 63 = .ok (.getfield 28, 3) := by decide +kernel
theorem dX3_add_66 : decode cX3_add 66 = .ok (.iload 5, 2) := by decide +kernel
theorem dX3_add_68 : decode cX3_add 68 = .ok (.iastore, 1) := by decide +kernel
theorem dX3_add_69 : decode cX3_add 69 = .ok (.aload_n 0, 1) := by decide +kernel
theorem dX3_add_70 : decode cX3_add 70 = .ok (.getfield 28, 3) := by decide +kernel
theorem dX3_add_73 : decode cX3_add 73 = .ok (.ireturn, 1) := by decide +kernel
theorem dX3_kind_0 : decode cX3_kind 0 = .ok (.iload_n 1, 1) := by decide +kernel
theorem dX3_kind_1 : decode cX3_kind 1 = .ok (.iconst 1, 1) := by decide +kernel
theorem dX3_kind_2 : decode cX3_kind 2 = .ok (.if_icmp .lt 20, 3) := by decide +kernel
theorem dX3_kind_5 : decode cX3_kind 5 = .ok (.iload_n 1, 1) := by decide +kernel
theorem dX3_kind_6 : decode cX3_kind 6 = .ok (.aload_n 0, 1) := by decide +kernel
theorem dX3_kind_7 : decode cX3_kind 7 = .ok (.getfield 28, 3) := by decide +kernel
theorem dX3_kind_10 : decode cX3_kind 10 = .ok (.if_icmp .gt 12, 3) := by decide +kernel
theorem dX3_kind_13 : decode cX3_kind 13 = .ok (.aload_n 0, 1) := by decide +kernel
theorem dX3_kind_14 : decode cX3_kind 14 = .ok (.getfield 9, 3) := by decide +kernel
theorem dX3_kind_17 : decode cX3_kind 17 = .ok (.iload_n 1, 1) := by decide +kernel
theorem dX3_kind_18 : decode cX3_kind 18 = .ok (.caload, 1) := by decide +kernel
theorem dX3_kind_19 : decode cX3_kind 19 = .ok (.goto 5, 3) := by decide +kernel
theorem dX3_kind_22 : decode cX3_kind 22 = .ok (.bipush 32, 2) := by decide +kernel
theorem dX3_kind_24 : decode cX3_kind 24 = .ok (.ireturn, 1) := by decide +kernel
theorem dX3_slot_0 : decode cX3_slot 0 = .ok (.iload_n 1, 1) := by decide +kernel
theorem dX3_slot_1 : decode cX3_slot 1 = .ok (.iconst 1, 1) := by decide +kernel
theorem dX3_slot_2 : decode cX3_slot 2 = .ok (.if_icmp .lt 20, 3) := by decide +kernel
theorem dX3_slot_5 : decode cX3_slot 5 = .ok (.iload_n 1, 1) := by decide +kernel
theorem dX3_slot_6 : decode cX3_slot 6 = .ok (.aload_n 0, 1) := by decide +kernel
theorem dX3_slot_7 : decode cX3_slot 7 = .ok (.getfield 28, 3) := by decide +kernel
theorem dX3_slot_10 : decode cX3_slot 10 = .ok (.if_icmp .gt 12, 3) := by decide +kernel
theorem dX3_slot_13 : decode cX3_slot 13 = .ok (.aload_n 0, 1) := by decide +kernel
theorem dX3_slot_14 : decode cX3_slot 14 = .ok (.getfield 15, 3) := by decide +kernel
theorem dX3_slot_17 : decode cX3_slot 17 = .ok (.iload_n 1, 1) := by decide +kernel
theorem dX3_slot_18 : decode cX3_slot 18 = .ok (.iaload, 1) := by decide +kernel
theorem dX3_slot_19 : decode cX3_slot 19 = .ok (.goto 4, 3) := by decide +kernel
theorem dX3_slot_22 : decode cX3_slot 22 = .ok (.iconst (-1), 1) := by decide +kernel
theorem dX3_slot_23 : decode cX3_slot 23 = .ok (.ireturn, 1) := by decide +kernel
theorem dX3_replayInto_0 : decode cX3_replayInto 0 = .ok (.aload_n 1, 1) := by decide +kernel
theorem dX3_replayInto_1 : decode cX3_replayInto 1 = .ok (.invokevirtual 36, 3) := by decide +kernel
theorem dX3_replayInto_4 : decode cX3_replayInto 4 = .ok (.iconst 1, 1) := by decide +kernel
theorem dX3_replayInto_5 : decode cX3_replayInto 5 = .ok (.istore 4, 2) := by decide +kernel
theorem dX3_replayInto_7 : decode cX3_replayInto 7 = .ok (.iload 4, 2) := by decide +kernel
theorem dX3_replayInto_9 : decode cX3_replayInto 9 = .ok (.iload_n 3, 1) := by decide +kernel
theorem dX3_replayInto_10 : decode cX3_replayInto 10 = .ok (.if_icmp .gt 71, 3) := by decide +kernel
theorem dX3_replayInto_13 : decode cX3_replayInto 13 = .ok (.iload 4, 2) := by decide +kernel
theorem dX3_replayInto_15 : decode cX3_replayInto 15 = .ok (.aload_n 0, 1) := by decide +kernel
theorem dX3_replayInto_16 : decode cX3_replayInto 16 = .ok (.getfield 28, 3) := by decide +kernel
theorem dX3_replayInto_19 : decode cX3_replayInto 19 = .ok (.if_icmp .gt 62, 3) := by decide +kernel
theorem dX3_replayInto_22 : decode cX3_replayInto 22 = .ok (.aload_n 0, 1) := by decide +kernel
theorem dX3_replayInto_23 : decode cX3_replayInto 23 = .ok (.getfield 15, 3) := by decide +kernel
theorem dX3_replayInto_26 : decode cX3_replayInto 26 = .ok (.iload 4, 2) := by decide +kernel
theorem dX3_replayInto_28 : decode cX3_replayInto 28 = .ok (.iaload, 1) := by decide +kernel
theorem dX3_replayInto_29 : decode cX3_replayInto 29 = .ok (.iload_n 2, 1) := by decide +kernel
theorem dX3_replayInto_30 : decode cX3_replayInto 30 = .ok (.if_icmp .ne 45, 3) := by decide +kernel
theorem dX3_replayInto_33 : decode cX3_replayInto 33 = .ok (.aload_n 1, 1) := by decide +kernel
theorem dX3_replayInto_34 : decode cX3_replayInto 34 = .ok (.aload_n 0, 1) := by decide +kernel
theorem dX3_replayInto_35 : decode cX3_replayInto 35 = .ok (.getfield 22, 3) := by decide +kernel
theorem dX3_replayInto_38 : decode cX3_replayInto 38 = .ok (.iload 4, 2) := by decide +kernel
theorem dX3_replayInto_40 : decode cX3_replayInto 40 = .ok (.iaload, 1) := by decide +kernel
theorem dX3_replayInto_41 : decode cX3_replayInto 41 = .ok (.aload_n 0, 1) := by decide +kernel
theorem dX3_replayInto_42 : decode cX3_replayInto 42 = .ok (.getfield 25, 3) := by decide +kernel
theorem dX3_replayInto_45 : decode cX3_replayInto 45 = .ok (.iload 4, 2) := by decide +kernel
theorem dX3_replayInto_47 : decode cX3_replayInto 47 = .ok (.iaload, 1) := by decide +kernel
theorem dX3_replayInto_48 : decode cX3_replayInto 48 = .ok (.aload_n 0, 1) := by decide +kernel
theorem dX3_replayInto_49 : decode cX3_replayInto 49 = .ok (.getfield 9, 3) := by decide +kernel
theorem dX3_replayInto_52 : decode cX3_replayInto 52 = .ok (.iload 4, 2) := by decide +kernel
theorem dX3_replayInto_54 : decode cX3_replayInto 54 = .ok (.caload, 1) := by decide +kernel
theorem dX3_replayInto_55 : decode cX3_replayInto 55 = .ok (.bipush 114, 2) := by decide +kernel
theorem dX3_replayInto_57 : decode cX3_replayInto 57 = .ok (.if_icmp .eq 7, 3) := by decide +kernel
theorem dX3_replayInto_60 : decode cX3_replayInto 60 = .ok (.iconst 1, 1) := by decide +kernel
theorem dX3_replayInto_61 : decode cX3_replayInto 61 = .ok (.goto 4, 3) := by decide +kernel
theorem dX3_replayInto_64 : decode cX3_replayInto 64 = .ok (.iconst 0, 1) := by decide +kernel
theorem dX3_replayInto_65 : decode cX3_replayInto 65 = .ok (.aload_n 0, 1) := by decide +kernel
theorem dX3_replayInto_66 : decode cX3_replayInto 66 = .ok (.getfield 19, 3) := by decide +kernel
theorem dX3_replayInto_69 : decode cX3_replayInto 69 = .ok (.iload 4, 2) := by decide +kernel
theorem dX3_replayInto_71 : decode cX3_replayInto 71 = .ok (.iaload, 1) := by decide +kernel
theorem dX3_replayInto_72 : decode cX3_replayInto 72 = .ok (.invokevirtual 41, 3) := by decide +kernel
theorem dX3_replayInto_75 : decode cX3_replayInto 75 = .ok (.iinc 4 1, 3) := by decide +kernel
theorem dX3_replayInto_78 : decode cX3_replayInto 78 = .ok (.goto (-71), 3) := by decide +kernel
theorem dX3_replayInto_81 : decode cX3_replayInto 81 = .ok (.return_, 1) := by decide +kernel
theorem dX4_init_0 : decode cX4_init 0 = .ok (.aload_n 0, 1) := by decide +kernel
theorem dX4_init_1 : decode cX4_init 1 = .ok (.invokespecial 3, 3) := by decide +kernel
theorem dX4_init_4 : decode cX4_init 4 = .ok (.aload_n 0, 1) := by decide +kernel
theorem dX4_init_5 : decode cX4_init 5 = .ok (.bipush 100, 2) := by decide +kernel
theorem dX4_init_7 : decode cX4_init 7 = .ok (.newarray .int, 2) := by decide +kernel
theorem dX4_init_9 : decode cX4_init 9 = .ok (.putfield 9, 3) := by decide +kernel
theorem dX4_init_12 : decode cX4_init 12 = .ok (.aload_n 0, 1) := by decide +kernel
theorem dX4_init_13 : decode cX4_init 13 = .ok (.bipush 100, 2) := by decide +kernel
theorem dX4_init_15 : decode cX4_init 15 = .ok (.newarray .int, 2) := by decide +kernel
theorem dX4_init_17 : decode cX4_init 17 = .ok (.putfield 15, 3) := by decide +kernel
theorem dX4_init_20 : decode cX4_init 20 = .ok (.aload_n 0, 1) := by decide +kernel
theorem dX4_init_21 : decode cX4_init 21 = .ok (.iconst 0, 1) := by decide +kernel
theorem dX4_init_22 : decode cX4_init 22 = .ok (.putfield 18, 3) := by decide +kernel
theorem dX4_init_25 : decode cX4_init 25 = .ok (.return_, 1) := by decide +kernel
theorem dX5_init_0 : decode cX5_init 0 = .ok (.aload_n 0, 1) := by decide +kernel
theorem dX5_init_1 : decode cX5_init 1 = .ok (.invokespecial 3, 3) := by decide +kernel
theorem dX5_init_4 : decode cX5_init 4 = .ok (.aload_n 0, 1) := by decide +kernel
theorem dX5_init_5 : decode cX5_init 5 = .ok (.bipush 61, 2) := by decide +kernel
theorem dX5_init_7 : decode cX5_init 7 = .ok (.newarray .int, 2) := by decide +kernel
theorem dX5_init_9 : decode cX5_init 9 = .ok (.putfield 9, 3) := by decide +kernel
theorem dX5_init_12 : decode cX5_init 12 = .ok (.aload_n 0, 1) := by decide +kernel
theorem dX5_init_13 : decode cX5_init 13 = .ok (.bipush 61, 2) := by decide +kernel
theorem dX5_init_15 : decode cX5_init 15 = .ok (.newarray .boolean, 2) := by decide +kernel
theorem dX5_init_17 : decode cX5_init 17 = .ok (.putfield 15, 3) := by decide +kernel
theorem dX5_init_20 : decode cX5_init 20 = .ok (.aload_n 0, 1) := by decide +kernel
theorem dX5_init_21 : decode cX5_init 21 = .ok (.bipush 61, 2) := by decide +kernel
theorem dX5_init_23 : decode cX5_init 23 = .ok (.newarray .int, 2) := by decide +kernel
theorem dX5_init_25 : decode cX5_init 25 = .ok (.putfield 19, 3) := by decide +kernel
theorem dX5_init_28 : decode cX5_init 28 = .ok (.aload_n 0, 1) := by decide +kernel
theorem dX5_init_29 : decode cX5_init 29 = .ok (.iconst 0, 1) := by decide +kernel
theorem dX5_init_30 : decode cX5_init 30 = .ok (.putfield 22, 3) := by decide +kernel
theorem dX5_init_33 : decode cX5_init 33 = .ok (.return_, 1) := by decide +kernel
theorem dX6_init_0 : decode cX6_init 0 = .ok (.aload_n 0, 1) := by decide +kernel
theorem dX6_init_1 : decode cX6_init 1 = .ok (.invokespecial 3, 3) := by decide +kernel
theorem dX6_init_4 : decode cX6_init 4 = .ok (.aload_n 0, 1) := by decide +kernel
theorem dX6_init_5 : decode cX6_init 5 = .ok (.new 9, 3) := by decide +kernel
theorem dX6_init_8 : decode cX6_init 8 = .ok (.dup, 1) := by decide +kernel
theorem dX6_init_9 : decode cX6_init 9 = .ok (.invokespecial 11, 3) := by decide +kernel
theorem dX6_init_12 : decode cX6_init 12 = .ok (.putfield 12, 3) := by decide +kernel
theorem dX6_init_15 : decode cX6_init 15 = .ok (.aload_n 0, 1) := by decide +kernel
theorem dX6_init_16 : decode cX6_init 16 = .ok (.new 16, 3) := by decide +kernel
theorem dX6_init_19 : decode cX6_init 19 = .ok (.dup, 1) := by decide +kernel
theorem dX6_init_20 : decode cX6_init 20 = .ok (.invokespecial 18, 3) := by decide +kernel
theorem dX6_init_23 : decode cX6_init 23 = .ok (.putfield 19, 3) := by decide +kernel
theorem dX6_init_26 : decode cX6_init 26 = .ok (.aload_n 0, 1) := by decide +kernel
theorem dX6_init_27 : decode cX6_init 27 = .ok (.new 23, 3) := by decide +kernel
theorem dX6_init_30 : decode cX6_init 30 = .ok (.dup, 1) := by decide +kernel
theorem dX6_init_31 : decode cX6_init 31 = .ok (.invokespecial 25, 3) := by decide +kernel
theorem dX6_init_34 : decode cX6_init 34 = .ok (.putfield 26, 3) := by decide +kernel
theorem dX6_init_37 : decode cX6_init 37 = .ok (.aload_n 0, 1) := by decide +kernel
theorem dX6_init_38 : decode cX6_init 38 = .ok (.iconst 0, 1) := by decide +kernel
theorem dX6_init_39 : decode cX6_init 39 = .ok (.putfield 30, 3) := by decide +kernel
theorem dX6_init_42 : decode cX6_init 42 = .ok (.aload_n 0, 1) := by decide +kernel
theorem dX6_init_43 : decode cX6_init 43 = .ok (.new 34, 3) := by decide +kernel
theorem dX6_init_46 : decode cX6_init 46 = .ok (.dup, 1) := by decide +kernel
theorem dX6_init_47 : decode cX6_init 47 = .ok (.invokespecial 36, 3) := by decide +kernel
theorem dX6_init_50 : decode cX6_init 50 = .ok (.putfield 37, 3) := by decide +kernel
theorem dX6_init_53 : decode cX6_init 53 = .ok (.aload_n 0, 1) := by decide +kernel
theorem dX6_init_54 : decode cX6_init 54 = .ok (.new 34, 3) := by decide +kernel
theorem dX6_init_57 : decode cX6_init 57 = .ok (.dup, 1) := by decide +kernel
theorem dX6_init_58 : decode cX6_init 58 = .ok (.invokespecial 36, 3) := by decide +kernel
theorem dX6_init_61 : decode cX6_init 61 = .ok (.putfield 41, 3) := by decide +kernel
theorem dX6_init_64 : decode cX6_init 64 = .ok (.aload_n 0, 1) := by decide +kernel
theorem dX6_init_65 : decode cX6_init 65 = .ok (.new 44, 3) := by decide +kernel
theorem dX6_init_68 : decode cX6_init 68 = .ok (.dup, 1) := by decide +kernel
theorem dX6_init_69 : decode cX6_init 69 = .ok (.invokespecial 46, 3) := by decide +kernel
theorem dX6_init_72 : decode cX6_init 72 = .ok (.putfield 47, 3) := by decide +kernel
theorem dX6_init_75 : decode cX6_init 75 = .ok (.aload_n 0, 1) := by decide +kernel
theorem dX6_init_76 : decode cX6_init 76 = .ok (.new 51, 3) := by decide +kernel
theorem dX6_init_79 : decode cX6_init 79 = .ok (.dup, 1) := by decide +kernel
theorem dX6_init_80 : decode cX6_init 80 = .ok (.invokespecial 53, 3) := by decide +kernel
theorem dX6_init_83 : decode cX6_init 83 = .ok (.putfield 54, 3) := by decide +kernel
theorem dX6_init_86 : decode cX6_init 86 = .ok (.return_, 1) := by decide +kernel
theorem dX6_addEntity_0 : decode cX6_addEntity 0 = .ok (.aload_n 0, 1) := by decide +kernel
theorem dX6_addEntity_1 : decode cX6_addEntity 1 = .ok (.getfield 30, 3) := by decide +kernel
theorem dX6_addEntity_4 : decode cX6_addEntity 4 = .ok (.bipush 6, 2) := by decide +kernel
theorem dX6_addEntity_6 : decode cX6_addEntity 6 = .ok (.if_icmp .lt 13, 3) := by decide +kernel
theorem dX6_addEntity_9 : decode cX6_addEntity 9 = .ok (.new 58, 3) := by decide +kernel
theorem dX6_addEntity_12 : decode cX6_addEntity 12 = .ok (.dup, 1) := by decide +kernel
theorem dX6_addEntity_13 : decode cX6_addEntity 13 = .ok (.ldc 60, 2) := by decide +kernel
theorem dX6_addEntity_15 : decode cX6_addEntity 15 = .ok (.invokespecial 62, 3) := by decide +kernel
theorem dX6_addEntity_18 : decode cX6_addEntity 18 = .ok (.athrow, 1) := by decide +kernel
theorem dX6_addEntity_19 : decode cX6_addEntity 19 = .ok (.aload_n 0, 1) := by decide +kernel
theorem dX6_addEntity_20 : decode cX6_addEntity 20 = .ok (.dup, 1) := by decide +kernel
theorem dX6_addEntity_21 : decode cX6_addEntity 21 = .ok (.getfield 30, 3) := by decide +kernel
theorem dX6_addEntity_24 : decode cX6_addEntity 24 = .ok (.iconst 1, 1) := by decide +kernel
theorem dX6_addEntity_25 : decode cX6_addEntity 25 = .ok (.iadd, 1) := by decide +kernel
theorem dX6_addEntity_26 : decode cX6_addEntity 26 = .ok (.putfield 30, 3) := by decide +kernel
theorem dX6_addEntity_29 : decode cX6_addEntity 29 = .ok (.aload_n 0, 1) := by decide +kernel
theorem dX6_addEntity_30 : decode cX6_addEntity 30 = .ok (.getfield 30, 3) := by decide +kernel
theorem dX6_addEntity_33 : decode cX6_addEntity 33 = .ok (.iconst 1, 1) := by decide +kernel
theorem dX6_addEntity_34 : decode cX6_addEntity 34 = .ok (.isub, 1) := by decide +kernel
theorem dX6_addEntity_35 : decode cX6_addEntity 35 = .ok (.ireturn, 1) := by decide +kernel
theorem dX6_tell_0 : decode cX6_tell 0 = .ok (.aload_n 0, 1) := by decide +kernel
theorem dX6_tell_1 : decode cX6_tell 1 = .ok (.iload_n 1, 1) := by decide +kernel
theorem dX6_tell_2 : decode cX6_tell 2 = .ok (.iload_n 2, 1) := by decide +kernel
theorem dX6_tell_3 : decode cX6_tell 3 = .ok (.invokevirtual 65, 3) := by decide +kernel
theorem dX6_tell_6 : decode cX6_tell 6 = .ok (.aload_n 0, 1) := by decide +kernel
theorem dX6_tell_7 : decode cX6_tell 7 = .ok (.iload 4, 2) := by decide +kernel
theorem dX6_tell_9 : decode cX6_tell 9 = .ok (.iload 5, 2) := by decide +kernel
theorem dX6_tell_11 : decode cX6_tell 11 = .ok (.invokevirtual 69, 3) := by decide +kernel
theorem dX6_tell_14 : decode cX6_tell 14 = .ok (.aload_n 0, 1) := by decide +kernel
theorem dX6_tell_15 : decode cX6_tell 15 = .ok (.invokevirtual 72, 3) := by decide +kernel
theorem dX6_tell_18 : decode cX6_tell 18 = .ok (.aload_n 0, 1) := by decide +kernel
theorem dX6_tell_19 : decode cX6_tell 19 = .ok (.bipush 116, 2) := by decide +kernel
theorem dX6_tell_21 : decode cX6_tell 21 = .ok (.iload_n 1, 1) := by decide +kernel
theorem dX6_tell_22 : decode cX6_tell 22 = .ok (.iload_n 2, 1) := by decide +kernel
theorem dX6_tell_23 : decode cX6_tell 23 = .ok (.invokestatic 75, 3) := by decide +kernel
theorem dX6_tell_26 : decode cX6_tell 26 = .ok (.iload_n 3, 1) := by decide +kernel
theorem dX6_tell_27 : decode cX6_tell 27 = .ok (.iload 4, 2) := by decide +kernel
theorem dX6_tell_29 : decode cX6_tell 29 = .ok (.iload 5, 2) := by decide +kernel
theorem dX6_tell_31 : decode cX6_tell 31 = .ok (.invokevirtual 79, 3) := by decide +kernel
theorem dX6_tell_34 : decode cX6_tell 34 = .ok (.ireturn, 1) := by decide +kernel
theorem dX6_retract_0 : decode cX6_retract 0 = .ok (.aload_n 0, 1) := by decide +kernel
theorem dX6_retract_1 : decode cX6_retract 1 = .ok (.iload_n 1, 1) := by decide +kernel
theorem dX6_retract_2 : decode cX6_retract 2 = .ok (.iload_n 2, 1) := by decide +kernel
theorem dX6_retract_3 : decode cX6_retract 3 = .ok (.invokevirtual 65, 3) := by decide +kernel
theorem dX6_retract_6 : decode cX6_retract 6 = .ok (.aload_n 0, 1) := by decide +kernel
theorem dX6_retract_7 : decode cX6_retract 7 = .ok (.iload_n 3, 1) := by decide +kernel
theorem dX6_retract_8 : decode cX6_retract 8 = .ok (.iload 4, 2) := by decide +kernel
theorem dX6_retract_10 : decode cX6_retract 10 = .ok (.invokevirtual 69, 3) := by decide +kernel
theorem dX6_retract_13 : decode cX6_retract 13 = .ok (.iload_n 1, 1) := by decide +kernel
theorem dX6_retract_14 : decode cX6_retract 14 = .ok (.iload_n 2, 1) := by decide +kernel
theorem dX6_retract_15 : decode cX6_retract 15 = .ok (.invokestatic 75, 3) := by decide +kernel
theorem dX6_retract_18 : decode cX6_retract 18 = .ok (.istore 5, 2) := by decide +kernel
theorem dX6_retract_20 : decode cX6_retract 20 = .ok (.aload_n 0, 1) := by decide +kernel
theorem dX6_retract_21 : decode cX6_retract 21 = .ok (.getfield 19, 3) := by decide +kernel
theorem dX6_retract_24 : decode cX6_retract 24 = .ok (.iload 5, 2) := by decide +kernel
theorem dX6_retract_26 : decode cX6_retract 26 = .ok (.iload_n 3, 1) := by decide +kernel
theorem dX6_retract_27 : decode cX6_retract 27 = .ok (.iload 4, 2) := by decide +kernel
theorem dX6_retract_29 : decode cX6_retract 29 = .ok (.aload_n 0, 1) := by decide +kernel
theorem dX6_retract_30 : decode cX6_retract 30 = .ok (.getfield 12, 3) := by decide +kernel
theorem dX6_retract_33 : decode cX6_retract 33 = .ok (.invokevirtual 83, 3) := by decide +kernel
theorem dX6_retract_36 : decode cX6_retract 36 = .ok (.invokevirtual 87, 3) := by decide +kernel
theorem dX6_retract_39 : decode cX6_retract 39 = .ok (.istore 6, 2) := by decide +kernel
theorem dX6_retract_41 : decode cX6_retract 41 = .ok (.iload 6, 2) := by decide +kernel
theorem dX6_retract_43 : decode cX6_retract 43 = .ok (.ifCond .ne 13, 3) := by decide +kernel
theorem dX6_retract_46 : decode cX6_retract 46 = .ok (.new 91, 3) := by decide +kernel
theorem dX6_retract_49 : decode cX6_retract 49 = .ok (.dup, 1) := by decide +kernel
theorem dX6_retract_50 : decode cX6_retract 50 = .ok (.ldc 93, 2) := by decide +kernel
theorem dX6_retract_52 : decode cX6_retract 52 = .ok (.invokespecial 95, 3) := by decide +kernel
theorem dX6_retract_55 : decode cX6_retract 55 = .ok (.athrow, 1) := by decide +kernel
theorem dX6_retract_56 : decode cX6_retract 56 = .ok (.aload_n 0, 1) := by decide +kernel
theorem dX6_retract_57 : decode cX6_retract 57 = .ok (.invokevirtual 72, 3) := by decide +kernel
theorem dX6_retract_60 : decode cX6_retract 60 = .ok (.aload_n 0, 1) := by decide +kernel
theorem dX6_retract_61 : decode cX6_retract 61 = .ok (.getfield 12, 3) := by decide +kernel
theorem dX6_retract_64 : decode cX6_retract 64 = .ok (.bipush 114, 2) := by decide +kernel
theorem dX6_retract_66 : decode cX6_retract 66 = .ok (.iload 5, 2) := by decide +kernel
theorem dX6_retract_68 : decode cX6_retract 68 = .ok (.iconst 0, 1) := by decide +kernel
theorem dX6_retract_69 : decode cX6_retract 69 = .ok (.iload_n 3, 1) := by decide +kernel
theorem dX6_retract_70 : decode cX6_retract 70 = .ok (.iload 4, 2) := by decide +kernel
theorem dX6_retract_72 : decode cX6_retract 72 = .ok (.invokevirtual 96, 3) := by decide +kernel
theorem dX6_retract_75 : decode cX6_retract 75 = .ok (.istore 7, 2) := by decide +kernel
theorem dX6_retract_77 : decode cX6_retract 77 = .ok (.aload_n 0, 1) := by decide +kernel
theorem dX6_retract_78 : decode cX6_retract 78 = .ok (.getfield 19, 3) := by decide +kernel
theorem dX6_retract_81 : decode cX6_retract 81 = .ok (.iload 5, 2) := by decide +kernel
theorem dX6_retract_83 : decode cX6_retract 83 = .ok (.iload_n 3, 1) := by decide +kernel
theorem dX6_retract_84 : decode cX6_retract 84 = .ok (.iload 4, 2) := by decide +kernel
theorem dX6_retract_86 : decode cX6_retract 86 = .ok (.iload 7, 2) := by decide +kernel
theorem dX6_retract_88 : decode cX6_retract 88 = .ok (.invokevirtual 99, 3) := by decide +kernel
theorem dX6_retract_91 : decode cX6_retract 91 = .ok (.pop, 1) := by decide +kernel
theorem dX6_retract_92 : decode cX6_retract 92 = .ok (.iload 6, 2) := by decide +kernel
theorem dX6_retract_94 : decode cX6_retract 94 = .ok (.ireturn, 1) := by decide +kernel
theorem dX6_correct_0 : decode cX6_correct 0 = .ok (.aload_n 0, 1) := by decide +kernel
theorem dX6_correct_1 : decode cX6_correct 1 = .ok (.iload_n 1, 1) := by decide +kernel
theorem dX6_correct_2 : decode cX6_correct 2 = .ok (.iload_n 2, 1) := by decide +kernel
theorem dX6_correct_3 : decode cX6_correct 3 = .ok (.invokevirtual 65, 3) := by decide +kernel
theorem dX6_correct_6 : decode cX6_correct 6 = .ok (.aload_n 0, 1) := by decide +kernel
theorem dX6_correct_7 : decode cX6_correct 7 = .ok (.iload_n 3, 1) := by decide +kernel
theorem dX6_correct_8 : decode cX6_correct 8 = .ok (.invokevirtual 102, 3) := by decide +kernel
theorem dX6_correct_11 : decode cX6_correct 11 = .ok (.iload_n 1, 1) := by decide +kernel
theorem dX6_correct_12 : decode cX6_correct 12 = .ok (.iload_n 2, 1) := by decide +kernel
theorem dX6_correct_13 : decode cX6_correct 13 = .ok (.invokestatic 75, 3) := by decide +kernel
theorem dX6_correct_16 : decode cX6_correct 16 = .ok (.istore 5, 2) := by decide +kernel
theorem dX6_correct_18 : decode cX6_correct 18 = .ok (.aload_n 0, 1) := by decide +kernel
theorem dX6_correct_19 : decode cX6_correct 19 = .ok (.getfield 19, 3) := by decide +kernel
theorem dX6_correct_22 : decode cX6_correct 22 = .ok (.iload 5, 2) := by decide +kernel
theorem dX6_correct_24 : decode cX6_correct 24 = .ok (.iload_n 3, 1) := by decide +kernel
theorem dX6_correct_25 : decode cX6_correct 25 = .ok (.aload_n 0, 1) := by decide +kernel
theorem dX6_correct_26 : decode cX6_correct 26 = .ok (.getfield 12, 3) := by decide +kernel
theorem dX6_correct_29 : decode cX6_correct 29 = .ok (.invokevirtual 83, 3) := by decide +kernel
theorem dX6_correct_32 : decode cX6_correct 32 = .ok (.invokevirtual 106, 3) := by decide +kernel
theorem dX6_correct_35 : decode cX6_correct 35 = .ok (.istore 6, 2) := by decide +kernel
theorem dX6_correct_37 : decode cX6_correct 37 = .ok (.aload_n 0, 1) := by decide +kernel
theorem dX6_correct_38 : decode cX6_correct 38 = .ok (.iload 6, 2) := by decide +kernel
theorem dX6_correct_40 : decode cX6_correct 40 = .ok (.iconst (-1), 1) := by decide +kernel
theorem dX6_correct_41 : decode cX6_correct 41 = .ok (.if_icmp .eq 7, 3) := by decide +kernel
theorem dX6_correct_44 : decode cX6_correct 44 = .ok (.iconst 1, 1) := by decide +kernel
theorem dX6_correct_45 : decode cX6_correct 45 = .ok (.goto 4, 3) := by decide +kernel
theorem dX6_correct_48 : decode cX6_correct 48 = .ok (.iconst 0, 1) := by decide +kernel
theorem dX6_correct_49 : decode cX6_correct 49 = .ok (.invokevirtual 110, 3) := by decide +kernel
theorem dX6_correct_52 : decode cX6_correct 52 = .ok (.aload_n 0, 1) := by decide +kernel
theorem dX6_correct_53 : decode cX6_correct 53 = .ok (.invokevirtual 72, 3) := by decide +kernel
theorem dX6_correct_56 : decode cX6_correct 56 = .ok (.aload_n 0, 1) := by decide +kernel
theorem dX6_correct_57 : decode cX6_correct 57 = .ok (.getfield 19, 3) := by decide +kernel
theorem dX6_correct_60 : decode cX6_correct 60 = .ok (.iload 6, 2) := by decide +kernel
theorem dX6_correct_62 : decode cX6_correct 62 = .ok (.invokevirtual 114, 3) := by decide +kernel
theorem dX6_correct_65 : decode cX6_correct 65 = .ok (.istore 7, 2) := by decide +kernel
theorem dX6_correct_67 : decode cX6_correct 67 = .ok (.aload_n 0, 1) := by decide +kernel
theorem dX6_correct_68 : decode cX6_correct 68 = .ok (.getfield 19, 3) := by decide +kernel
theorem dX6_correct_71 : decode cX6_correct 71 = .ok (.iload 6, 2) := by decide +kernel
theorem dX6_correct_73 : decode cX6_correct 73 = .ok (.invokevirtual 118, 3) := by decide +kernel
theorem dX6_correct_76 : decode cX6_correct 76 = .ok (.istore 8, 2) := by decide +kernel
theorem dX6_correct_78 : decode cX6_correct 78 = .ok (.aload_n 0, 1) := by decide +kernel
theorem dX6_correct_79 : decode cX6_correct 79 = .ok (.bipush 99, 2) := by decide +kernel
theorem dX6_correct_81 : decode cX6_correct 81 = .ok (.iload 5, 2) := by decide +kernel
theorem dX6_correct_83 : decode cX6_correct 83 = .ok (.iload 4, 2) := by decide +kernel
theorem dX6_correct_85 : decode cX6_correct 85 = .ok (.iload 7, 2) := by decide +kernel
theorem dX6_correct_87 : decode cX6_correct 87 = .ok (.iload 8, 2) := by decide +kernel
theorem dX6_correct_89 : decode cX6_correct 89 = .ok (.invokevirtual 79, 3) := by decide +kernel
theorem dX6_correct_92 : decode cX6_correct 92 = .ok (.pop, 1) := by decide +kernel
theorem dX6_correct_93 : decode cX6_correct 93 = .ok (.iload 8, 2) := by decide +kernel
theorem dX6_correct_95 : decode cX6_correct 95 = .ok (.iload 7, 2) := by decide +kernel
theorem dX6_correct_97 : decode cX6_correct 97 = .ok (.isub, 1) := by decide +kernel
theorem dX6_correct_98 : decode cX6_correct 98 = .ok (.ireturn, 1) := by decide +kernel
theorem dX6_clock_0 : decode cX6_clock 0 = .ok (.aload_n 0, 1) := by decide +kernel
theorem dX6_clock_1 : decode cX6_clock 1 = .ok (.getfield 12, 3) := by decide +kernel
theorem dX6_clock_4 : decode cX6_clock 4 = .ok (.invokevirtual 83, 3) := by decide +kernel
theorem dX6_clock_7 : decode cX6_clock 7 = .ok (.ireturn, 1) := by decide +kernel
theorem dX6_operationAt_0 : decode cX6_operationAt 0 = .ok (.aload_n 0, 1) := by decide +kernel
theorem dX6_operationAt_1 : decode cX6_operationAt 1 = .ok (.iload_n 1, 1) := by decide +kernel
theorem dX6_operationAt_2 : decode cX6_operationAt 2 = .ok (.invokevirtual 121, 3) := by decide +kernel
theorem dX6_operationAt_5 : decode cX6_operationAt 5 = .ok (.aload_n 0, 1) := by decide +kernel
theorem dX6_operationAt_6 : decode cX6_operationAt 6 = .ok (.getfield 12, 3) := by decide +kernel
theorem dX6_operationAt_9 : decode cX6_operationAt 9 = .ok (.iload_n 1, 1) := by decide +kernel
theorem dX6_operationAt_10 : decode cX6_operationAt 10 = .ok (.invokevirtual 124, 3) := by decide +kernel
theorem dX6_operationAt_13 : decode cX6_operationAt 13 = .ok (.ireturn, 1) := by decide +kernel
theorem dX6_entityOf_0 : decode cX6_entityOf 0 = .ok (.aload_n 0, 1) := by decide +kernel
theorem dX6_entityOf_1 : decode cX6_entityOf 1 = .ok (.iload_n 1, 1) := by decide +kernel
theorem dX6_entityOf_2 : decode cX6_entityOf 2 = .ok (.invokevirtual 121, 3) := by decide +kernel
theorem dX6_entityOf_5 : decode cX6_entityOf 5 = .ok (.aload_n 0, 1) := by decide +kernel
theorem dX6_entityOf_6 : decode cX6_entityOf 6 = .ok (.getfield 12, 3) := by decide +kernel
theorem dX6_entityOf_9 : decode cX6_entityOf 9 = .ok (.iload_n 1, 1) := by decide +kernel
theorem dX6_entityOf_10 : decode cX6_entityOf 10 = .ok (.invokevirtual 128, 3) := by decide +kernel
theorem dX6_entityOf_13 : decode cX6_entityOf 13 = .ok (.iconst 3, 1) := by decide +kernel
theorem dX6_entityOf_14 : decode cX6_entityOf 14 = .ok (.idiv, 1) := by decide +kernel
theorem dX6_entityOf_15 : decode cX6_entityOf 15 = .ok (.ireturn, 1) := by decide +kernel
theorem dX6_factCount_0 : decode cX6_factCount 0 = .ok (.aload_n 0, 1) := by decide +kernel
theorem dX6_factCount_1 : decode cX6_factCount 1 = .ok (.getfield 19, 3) := by decide +kernel
theorem dX6_factCount_4 : decode cX6_factCount 4 = .ok (.invokevirtual 131, 3) := by decide +kernel
theorem dX6_factCount_7 : decode cX6_factCount 7 = .ok (.ireturn, 1) := by decide +kernel
theorem dX6_openCount_0 : decode cX6_openCount 0 = .ok (.aload_n 0, 1) := by decide +kernel
theorem dX6_openCount_1 : decode cX6_openCount 1 = .ok (.getfield 19, 3) := by decide +kernel
theorem dX6_openCount_4 : decode cX6_openCount 4 = .ok (.invokevirtual 134, 3) := by decide +kernel
theorem dX6_openCount_7 : decode cX6_openCount 7 = .ok (.ireturn, 1) := by decide +kernel
theorem dX6_factValue_0 : decode cX6_factValue 0 = .ok (.aload_n 0, 1) := by decide +kernel
theorem dX6_factValue_1 : decode cX6_factValue 1 = .ok (.iload_n 1, 1) := by decide +kernel
theorem dX6_factValue_2 : decode cX6_factValue 2 = .ok (.invokevirtual 137, 3) := by decide +kernel
theorem dX6_factValue_5 : decode cX6_factValue 5 = .ok (.aload_n 0, 1) := by decide +kernel
theorem dX6_factValue_6 : decode cX6_factValue 6 = .ok (.getfield 19, 3) := by decide +kernel
theorem dX6_factValue_9 : decode cX6_factValue 9 = .ok (.iload_n 1, 1) := by decide +kernel
theorem dX6_factValue_10 : decode cX6_factValue 10 = .ok (.invokevirtual 140, 3) := by decide +kernel
theorem dX6_factValue_13 : decode cX6_factValue 13 = .ok (.ireturn, 1) := by decide +kernel
theorem dX6_factFrom_0 : decode cX6_factFrom 0 = .ok (.aload_n 0, 1) := by decide +kernel
theorem dX6_factFrom_1 : decode cX6_factFrom 1 = .ok (.iload_n 1, 1) := by decide +kernel
theorem dX6_factFrom_2 : decode cX6_factFrom 2 = .ok (.invokevirtual 137, 3) := by decide +kernel
theorem dX6_factFrom_5 : decode cX6_factFrom 5 = .ok (.aload_n 0, 1) := by decide +kernel
theorem dX6_factFrom_6 : decode cX6_factFrom 6 = .ok (.getfield 19, 3) := by decide +kernel
theorem dX6_factFrom_9 : decode cX6_factFrom 9 = .ok (.iload_n 1, 1) := by decide +kernel
theorem dX6_factFrom_10 : decode cX6_factFrom 10 = .ok (.invokevirtual 114, 3) := by decide +kernel
theorem dX6_factFrom_13 : decode cX6_factFrom 13 = .ok (.ireturn, 1) := by decide +kernel
theorem dX6_factTo_0 : decode cX6_factTo 0 = .ok (.aload_n 0, 1) := by decide +kernel
theorem dX6_factTo_1 : decode cX6_factTo 1 = .ok (.iload_n 1, 1) := by decide +kernel
theorem dX6_factTo_2 : decode cX6_factTo 2 = .ok (.invokevirtual 137, 3) := by decide +kernel
theorem dX6_factTo_5 : decode cX6_factTo 5 = .ok (.aload_n 0, 1) := by decide +kernel
theorem dX6_factTo_6 : decode cX6_factTo 6 = .ok (.getfield 19, 3) := by decide +kernel
theorem dX6_factTo_9 : decode cX6_factTo 9 = .ok (.iload_n 1, 1) := by decide +kernel
theorem dX6_factTo_10 : decode cX6_factTo 10 = .ok (.invokevirtual 118, 3) := by decide +kernel
theorem dX6_factTo_13 : decode cX6_factTo 13 = .ok (.ireturn, 1) := by decide +kernel
theorem dX6_openedAt_0 : decode cX6_openedAt 0 = .ok (.aload_n 0, 1) := by decide +kernel
theorem dX6_openedAt_1 : decode cX6_openedAt 1 = .ok (.iload_n 1, 1) := by decide +kernel
theorem dX6_openedAt_2 : decode cX6_openedAt 2 = .ok (.invokevirtual 137, 3) := by decide +kernel
theorem dX6_openedAt_5 : decode cX6_openedAt 5 = .ok (.aload_n 0, 1) := by decide +kernel
theorem dX6_openedAt_6 : decode cX6_openedAt 6 = .ok (.getfield 19, 3) := by decide +kernel
theorem dX6_openedAt_9 : decode cX6_openedAt 9 = .ok (.iload_n 1, 1) := by decide +kernel
theorem dX6_openedAt_10 : decode cX6_openedAt 10 = .ok (.invokevirtual 143, 3) := by decide +kernel
theorem dX6_openedAt_13 : decode cX6_openedAt 13 = .ok (.ireturn, 1) := by decide +kernel
theorem dX6_closedAt_0 : decode cX6_closedAt 0 = .ok (.aload_n 0, 1) := by decide +kernel
theorem dX6_closedAt_1 : decode cX6_closedAt 1 = .ok (.iload_n 1, 1) := by decide +kernel
theorem dX6_closedAt_2 : decode cX6_closedAt 2 = .ok (.invokevirtual 137, 3) := by decide +kernel
theorem dX6_closedAt_5 : decode cX6_closedAt 5 = .ok (.aload_n 0, 1) := by decide +kernel
theorem dX6_closedAt_6 : decode cX6_closedAt 6 = .ok (.getfield 19, 3) := by decide +kernel
theorem dX6_closedAt_9 : decode cX6_closedAt 9 = .ok (.iload_n 1, 1) := by decide +kernel
theorem dX6_closedAt_10 : decode cX6_closedAt 10 = .ok (.invokevirtual 146, 3) := by decide +kernel
theorem dX6_closedAt_13 : decode cX6_closedAt 13 = .ok (.ireturn, 1) := by decide +kernel
theorem dX6_purge_0 : decode cX6_purge 0 = .ok (.iload_n 1, 1) := by decide +kernel
theorem dX6_purge_1 : decode cX6_purge 1 = .ok (.aload_n 0, 1) := by decide +kernel
theorem dX6_purge_2 : decode cX6_purge 2 = .ok (.getfield 19, 3) := by decide +kernel
theorem dX6_purge_5 : decode cX6_purge 5 = .ok (.invokevirtual 149, 3) := by decide +kernel
theorem dX6_purge_8 : decode cX6_purge 8 = .ok (.if_icmp .lt 14, 3) := by decide +kernel
theorem dX6_purge_11 : decode cX6_purge 11 = .ok (.iload_n 1, 1) := by decide +kernel
theorem dX6_purge_12 : decode cX6_purge 12 = .ok (.aload_n 0, 1) := by decide +kernel
theorem dX6_purge_13 : decode cX6_purge 13 = .ok (.getfield 12, 3) := by decide +kernel
theorem dX6_purge_16 : decode cX6_purge 16 = .ok (.invokevirtual 83, 3) := by decide +kernel
theorem dX6_purge_19 : decode cX6_purge 19 = .ok (.if_icmp .le 13, 3) := by decide +kernel
theorem dX6_purge_22 : decode cX6_purge 22 = .ok (.new 152, 3) := by decide +kernel
theorem dX6_purge_25 : decode cX6_purge 25 = .ok (.dup, 1) := by decide +kernel
theorem dX6_purge_26 : decode cX6_purge 26 = .ok (.ldc 154, 2) := by decide +kernel
theorem dX6_purge_28 : decode cX6_purge 28 = .ok (.invokespecial 156, 3) := by decide +kernel
theorem dX6_purge_31 : decode cX6_purge 31 = .ok (.athrow, 1) := by decide +kernel
theorem dX6_purge_32 : decode cX6_purge 32 = .ok (.aload_n 0, 1) := by decide +kernel
theorem dX6_purge_33 : decode cX6_purge 33 = .ok (.getfield 19, 3) := by decide +kernel
theorem dX6_purge_36 : decode cX6_purge 36 = .ok (.iload_n 1, 1) := by decide +kernel
theorem dX6_purge_37 : decode cX6_purge 37 = .ok (.invokevirtual 157, 3) := by decide +kernel
theorem dX6_purge_40 : decode cX6_purge 40 = .ok (.ireturn, 1) := by decide +kernel
theorem dX6_horizon_0 : decode cX6_horizon 0 = .ok (.aload_n 0, 1) := by decide +kernel
theorem dX6_horizon_1 : decode cX6_horizon 1 = .ok (.getfield 19, 3) := by decide +kernel
theorem dX6_horizon_4 : decode cX6_horizon 4 = .ok (.invokevirtual 149, 3) := by decide +kernel
theorem dX6_horizon_7 : decode cX6_horizon 7 = .ok (.ireturn, 1) := by decide +kernel
theorem dX6_isConsistent_0 : decode cX6_isConsistent 0 = .ok (.iconst 0, 1) := by decide +kernel
theorem dX6_isConsistent_1 : decode cX6_isConsistent 1 = .ok (.istore_n 1, 1) := by decide +kernel
theorem dX6_isConsistent_2 : decode cX6_isConsistent 2 = .ok (.iload_n 1, 1) := by decide +kernel
theorem dX6_isConsistent_3 : decode cX6_isConsistent 3 = .ok (.aload_n 0, 1) := by decide +kernel
theorem dX6_isConsistent_4 : decode cX6_isConsistent 4 = .ok (.getfield 30, 3) := by decide +kernel
theorem dX6_isConsistent_7 : decode cX6_isConsistent 7 = .ok (.iconst 3, 1) := by decide +kernel
theorem dX6_isConsistent_8 : decode cX6_isConsistent 8 = .ok (.imul, 1) := by decide +kernel
theorem dX6_isConsistent_9 : decode cX6_isConsistent 9 = .ok (.if_icmp .ge 19, 3) := by decide +kernel
theorem dX6_isConsistent_12 : decode cX6_isConsistent 12 = .ok (.aload_n 0, 1) := by decide +kernel
theorem dX6_isConsistent_13 : decode cX6_isConsistent 13 = .ok (.iload_n 1, 1) := by decide +kernel
theorem dX6_isConsistent_14 : decode cX6_isConsistent 14 = .ok (.invokevirtual 258, 3) := by decide +kernel
theorem dX6_isConsistent_17 : decode cX6_isConsistent 17 = .ok (.ifCond .ne 5, 3) := by decide +kernel
theorem dX6_isConsistent_20 : decode cX6_isConsistent 20 = .ok (.iconst 0, 1) := by decide +kernel
theorem dX6_isConsistent_21 : decode cX6_isConsistent 21 = .ok (.ireturn, 1) := by decide +kernel
theorem dX6_isConsistent_22 : decode cX6_isConsistent 22 = .ok (.iinc 1 1, 3) := by decide +kernel
theorem dX6_isConsistent_25 : decode cX6_isConsistent 25 = .ok (.goto (-23), 3) := by decide +kernel
theorem dX6_isConsistent_28 : decode cX6_isConsistent 28 = .ok (.iconst 1, 1) := by decide +kernel
theorem dX6_isConsistent_29 : decode cX6_isConsistent 29 = .ok (.ireturn, 1) := by decide +kernel
theorem dX6_slotOf_0 : decode cX6_slotOf 0 = .ok (.iload_n 0, 1) := by decide +kernel
theorem dX6_slotOf_1 : decode cX6_slotOf 1 = .ok (.iconst 3, 1) := by decide +kernel
theorem dX6_slotOf_2 : decode cX6_slotOf 2 = .ok (.imul, 1) := by decide +kernel
theorem dX6_slotOf_3 : decode cX6_slotOf 3 = .ok (.iload_n 1, 1) := by decide +kernel
theorem dX6_slotOf_4 : decode cX6_slotOf 4 = .ok (.iadd, 1) := by decide +kernel
theorem dX6_slotOf_5 : decode cX6_slotOf 5 = .ok (.ireturn, 1) := by decide +kernel
theorem dX6_believe_0 : decode cX6_believe 0 = .ok (.aload_n 0, 1) := by decide +kernel
theorem dX6_believe_1 : decode cX6_believe 1 = .ok (.getfield 12, 3) := by decide +kernel
theorem dX6_believe_4 : decode cX6_believe 4 = .ok (.iload_n 1, 1) := by decide +kernel
theorem dX6_believe_5 : decode cX6_believe 5 = .ok (.iload_n 2, 1) := by decide +kernel
theorem dX6_believe_6 : decode cX6_believe 6 = .ok (.iload_n 3, 1) := by decide +kernel
theorem dX6_believe_7 : decode cX6_believe 7 = .ok (.iload 4, 2) := by decide +kernel
theorem dX6_believe_9 : decode cX6_believe 9 = .ok (.iload 5, 2) := by decide +kernel
theorem dX6_believe_11 : decode cX6_believe 11 = .ok (.invokevirtual 96, 3) := by decide +kernel
theorem dX6_believe_14 : decode cX6_believe 14 = .ok (.istore 6, 2) := by decide +kernel
theorem dX6_believe_16 : decode cX6_believe 16 = .ok (.aload_n 0, 1) := by decide +kernel
theorem dX6_believe_17 : decode cX6_believe 17 = .ok (.getfield 19, 3) := by decide +kernel
theorem dX6_believe_20 : decode cX6_believe 20 = .ok (.iload_n 2, 1) := by decide +kernel
theorem dX6_believe_21 : decode cX6_believe 21 = .ok (.iload 4, 2) := by decide +kernel
theorem dX6_believe_23 : decode cX6_believe 23 = .ok (.iload 5, 2) := by decide +kernel
theorem dX6_believe_25 : decode cX6_believe 25 = .ok (.iload 6, 2) := by decide +kernel
theorem dX6_believe_27 : decode cX6_believe 27 = .ok (.invokevirtual 99, 3) := by decide +kernel
theorem dX6_believe_30 : decode cX6_believe 30 = .ok (.istore 7, 2) := by decide +kernel
theorem dX6_believe_32 : decode cX6_believe 32 = .ok (.aload_n 0, 1) := by decide +kernel
theorem dX6_believe_33 : decode cX6_believe 33 = .ok (.getfield 19, 3) := by decide +kernel
theorem dX6_believe_36 : decode cX6_believe 36 = .ok (.iload_n 2, 1) := by decide +kernel
theorem dX6_believe_37 : decode cX6_believe 37 = .ok (.iload_n 3, 1) := by decide +kernel
theorem dX6_believe_38 : decode cX6_believe 38 = .ok (.iload 4, 2) := by decide +kernel
theorem dX6_believe_40 : decode cX6_believe 40 = .ok (.iload 5, 2) := by decide +kernel
theorem dX6_believe_42 : decode cX6_believe 42 = .ok (.iload 6, 2) := by decide +kernel
theorem dX6_believe_44 : decode cX6_believe 44 = .ok (.invokevirtual 261, 3) := by decide +kernel
theorem dX6_believe_47 : decode cX6_believe 47 = .ok (.iload 7, 2) := by decide +kernel
theorem dX6_believe_49 : decode cX6_believe 49 = .ok (.ireturn, 1) := by decide +kernel
theorem dX6_isSlotConsistent_0 : decode cX6_isSlotConsistent 0 = .ok (.aload_n 0, 1) := by decide +kernel
theorem dX6_isSlotConsistent_1 : decode cX6_isSlotConsistent 1 = .ok (.getfield 12, 3) := by decide +kernel
theorem dX6_isSlotConsistent_4 : decode cX6_isSlotConsistent 4 = .ok (.invokevirtual 83, 3) := by decide +kernel
theorem dX6_isSlotConsistent_7 : decode cX6_isSlotConsistent 7 = .ok (.istore_n 2, 1) := by decide +kernel
theorem dX6_isSlotConsistent_8 : decode cX6_isSlotConsistent 8 = .ok (.aload_n 0, 1) := by decide +kernel
theorem dX6_isSlotConsistent_9 : decode cX6_isSlotConsistent 9 = .ok (.getfield 19, 3) := by decide +kernel
theorem dX6_isSlotConsistent_12 : decode cX6_isSlotConsistent 12 = .ok (.aload_n 0, 1) := by decide +kernel
theorem dX6_isSlotConsistent_13 : decode cX6_isSlotConsistent 13 = .ok (.getfield 37, 3) := by decide +kernel
theorem dX6_isSlotConsistent_16 : decode cX6_isSlotConsistent 16 = .ok (.iload_n 1, 1) := by decide +kernel
theorem dX6_isSlotConsistent_17 : decode cX6_isSlotConsistent 17 = .ok (.iload_n 2, 1) := by decide +kernel
theorem dX6_isSlotConsistent_18 : decode cX6_isSlotConsistent 18 = .ok (.invokevirtual 187, 3) := by decide +kernel
theorem dX6_isSlotConsistent_21 : decode cX6_isSlotConsistent 21 = .ok (.aload_n 0, 1) := by decide +kernel
theorem dX6_isSlotConsistent_22 : decode cX6_isSlotConsistent 22 = .ok (.getfield 12, 3) := by decide +kernel
theorem dX6_isSlotConsistent_25 : decode cX6_isSlotConsistent 25 = .ok (.aload_n 0, 1) := by decide +kernel
theorem dX6_isSlotConsistent_26 : decode cX6_isSlotConsistent 26 = .ok (.getfield 41, 3) := by decide +kernel
theorem dX6_isSlotConsistent_29 : decode cX6_isSlotConsistent 29 = .ok (.iload_n 1, 1) := by decide +kernel
theorem dX6_isSlotConsistent_30 : decode cX6_isSlotConsistent 30 = .ok (.iload_n 2, 1) := by decide +kernel
theorem dX6_isSlotConsistent_31 : decode cX6_isSlotConsistent 31 = .ok (.invokevirtual 163, 3) := by decide +kernel
theorem dX6_isSlotConsistent_34 : decode cX6_isSlotConsistent 34 = .ok (.aload_n 0, 1) := by decide +kernel
theorem dX6_isSlotConsistent_35 : decode cX6_isSlotConsistent 35 = .ok (.getfield 19, 3) := by decide +kernel
theorem dX6_isSlotConsistent_38 : decode cX6_isSlotConsistent 38 = .ok (.iload_n 1, 1) := by decide +kernel
theorem dX6_isSlotConsistent_39 : decode cX6_isSlotConsistent 39 = .ok (.iconst 0, 1) := by decide +kernel
theorem dX6_isSlotConsistent_40 : decode cX6_isSlotConsistent 40 = .ok (.bipush 100, 2) := by decide +kernel
theorem dX6_isSlotConsistent_42 : decode cX6_isSlotConsistent 42 = .ok (.iload_n 2, 1) := by decide +kernel
theorem dX6_isSlotConsistent_43 : decode cX6_isSlotConsistent 43 = .ok (.invokevirtual 87, 3) := by decide +kernel
theorem dX6_isSlotConsistent_46 : decode cX6_isSlotConsistent 46 = .ok (.aload_n 0, 1) := by decide +kernel
theorem dX6_isSlotConsistent_47 : decode cX6_isSlotConsistent 47 = .ok (.getfield 37, 3) := by decide +kernel
theorem dX6_isSlotConsistent_50 : decode cX6_isSlotConsistent 50 = .ok (.aload_n 0, 1) := by decide +kernel
theorem dX6_isSlotConsistent_51 : decode cX6_isSlotConsistent 51 = .ok (.getfield 37, 3) := by decide +kernel
theorem dX6_isSlotConsistent_54 : decode cX6_isSlotConsistent 54 = .ok (.invokevirtual 227, 3) := by decide +kernel
theorem dX6_isSlotConsistent_57 : decode cX6_isSlotConsistent 57 = .ok (.if_icmp .ne 21, 3) := by decide +kernel
theorem dX6_isSlotConsistent_60 : decode cX6_isSlotConsistent 60 = .ok (.aload_n 0, 1) := by decide +kernel
theorem dX6_isSlotConsistent_61 : decode cX6_isSlotConsistent 61 = .ok (.getfield 37, 3) := by decide +kernel
theorem dX6_isSlotConsistent_64 : decode cX6_isSlotConsistent 64 = .ok (.aload_n 0, 1) := by decide +kernel
theorem dX6_isSlotConsistent_65 : decode cX6_isSlotConsistent 65 = .ok (.getfield 41, 3) := by decide +kernel
theorem dX6_isSlotConsistent_68 : decode cX6_isSlotConsistent 68 = .ok (.invokevirtual 200, 3) := by decide +kernel
theorem dX6_isSlotConsistent_71 : decode cX6_isSlotConsistent 71 = .ok (.ifCond .ne 7, 3) := by decide +kernel
theorem dX6_isSlotConsistent_74 : decode cX6_isSlotConsistent 74 = .ok (.iconst 1, 1) := by decide +kernel
theorem dX6_isSlotConsistent_75 : decode cX6_isSlotConsistent 75 = .ok (.goto 4, 3) := by decide +kernel
theorem dX6_isSlotConsistent_78 : decode cX6_isSlotConsistent 78 = .ok (.iconst 0, 1) := by decide +kernel
theorem dX6_isSlotConsistent_79 : decode cX6_isSlotConsistent 79 = .ok (.ireturn, 1) := by decide +kernel
theorem dX6_requireAttribute_0 : decode cX6_requireAttribute 0 = .ok (.iload_n 1, 1) := by decide +kernel
theorem dX6_requireAttribute_1 : decode cX6_requireAttribute 1 = .ok (.ifCond .lt 11, 3) := by decide +kernel
theorem dX6_requireAttribute_4 : decode cX6_requireAttribute 4 = .ok (.iload_n 1, 1) := by decide +kernel
theorem dX6_requireAttribute_5 : decode cX6_requireAttribute 5 = .ok (.aload_n 0, 1) := by decide +kernel
theorem dX6_requireAttribute_6 : decode cX6_requireAttribute 6 = .ok (.getfield 30, 3) := by decide +kernel
theorem dX6_requireAttribute_9 : decode cX6_requireAttribute 9 = .ok (.if_icmp .lt 14, 3) := by decide +kernel
theorem dX6_requireAttribute_12 : decode cX6_requireAttribute 12 = .ok (.new 250, 3) := by decide +kernel
theorem dX6_requireAttribute_15 : decode cX6_requireAttribute 15 = .ok (.dup, 1) := by decide +kernel
theorem dX6_requireAttribute_16 : decode cX6_requireAttribute 16 = .ok (.ldc_w 271, 3) := by decide +kernel
theorem dX6_requireAttribute_19 : decode cX6_requireAttribute 19 = .ok (.invokespecial 254, 3) := by decide +kernel
theorem dX6_requireAttribute_22 : decode cX6_requireAttribute 22 = .ok (.athrow, 1) := by decide +kernel
theorem dX6_requireAttribute_23 : decode cX6_requireAttribute 23 = .ok (.aload_n 0, 1) := by decide +kernel
theorem dX6_requireAttribute_24 : decode cX6_requireAttribute 24 = .ok (.iload_n 2, 1) := by decide +kernel
theorem dX6_requireAttribute_25 : decode cX6_requireAttribute 25 = .ok (.invokevirtual 204, 3) := by decide +kernel
theorem dX6_requireAttribute_28 : decode cX6_requireAttribute 28 = .ok (.return_, 1) := by decide +kernel
theorem dX6_requireAttributeNumber_0 : decode cX6_requireAttributeNumber 0 = .ok (.iload_n 1, 1) := by decide +kernel
theorem dX6_requireAttributeNumber_1 : decode cX6_requireAttributeNumber 1 = .ok (.ifCond .lt 8, 3) := by decide +kernel
theorem dX6_requireAttributeNumber_4 : decode cX6_requireAttributeNumber 4 = .ok (.iload_n 1, 1) := by decide +kernel
theorem dX6_requireAttributeNumber_5 : decode cX6_requireAttributeNumber 5 = .ok (.iconst 3, 1) := by decide +kernel
theorem dX6_requireAttributeNumber_6 : decode cX6_requireAttributeNumber 6 = .ok (.if_icmp .lt 14, 3) := by decide +kernel
theorem dX6_requireAttributeNumber_9 : decode cX6_requireAttributeNumber 9 = .ok (.new 250, 3) := by decide +kernel
theorem dX6_requireAttributeNumber_12 : decode cX6_requireAttributeNumber 12 = .ok (.dup, 1) := by decide +kernel
theorem dX6_requireAttributeNumber_13 : decode cX6_requireAttributeNumber 13 = .ok (.ldc_w 273, 3) := by decide +kernel
theorem dX6_requireAttributeNumber_16 : decode cX6_requireAttributeNumber 16 = .ok (.invokespecial 254, 3) := by decide +kernel
theorem dX6_requireAttributeNumber_19 : decode cX6_requireAttributeNumber 19 = .ok (.athrow, 1) := by decide +kernel
theorem dX6_requireAttributeNumber_20 : decode cX6_requireAttributeNumber 20 = .ok (.return_, 1) := by decide +kernel
theorem dX6_requireDay_0 : decode cX6_requireDay 0 = .ok (.iload_n 1, 1) := by decide +kernel
theorem dX6_requireDay_1 : decode cX6_requireDay 1 = .ok (.ifCond .lt 9, 3) := by decide +kernel
theorem dX6_requireDay_4 : decode cX6_requireDay 4 = .ok (.iload_n 1, 1) := by decide +kernel
theorem dX6_requireDay_5 : decode cX6_requireDay 5 = .ok (.bipush 100, 2) := by decide +kernel
theorem dX6_requireDay_7 : decode cX6_requireDay 7 = .ok (.if_icmp .lt 14, 3) := by decide +kernel
theorem dX6_requireDay_10 : decode cX6_requireDay 10 = .ok (.new 152, 3) := by decide +kernel
theorem dX6_requireDay_13 : decode cX6_requireDay 13 = .ok (.dup, 1) := by decide +kernel
theorem dX6_requireDay_14 : decode cX6_requireDay 14 = .ok (.ldc_w 275, 3) := by decide +kernel
theorem dX6_requireDay_17 : decode cX6_requireDay 17 = .ok (.invokespecial 156, 3) := by decide +kernel
theorem dX6_requireDay_20 : decode cX6_requireDay 20 = .ok (.athrow, 1) := by decide +kernel
theorem dX6_requireDay_21 : decode cX6_requireDay 21 = .ok (.return_, 1) := by decide +kernel
theorem dX6_requireDays_0 : decode cX6_requireDays 0 = .ok (.iload_n 1, 1) := by decide +kernel
theorem dX6_requireDays_1 : decode cX6_requireDays 1 = .ok (.ifCond .lt 14, 3) := by decide +kernel
theorem dX6_requireDays_4 : decode cX6_requireDays 4 = .ok (.iload_n 2, 1) := by decide +kernel
theorem dX6_requireDays_5 : decode cX6_requireDays 5 = .ok (.iload_n 1, 1) := by decide +kernel
theorem dX6_requireDays_6 : decode cX6_requireDays 6 = .ok (.if_icmp .le 9, 3) := by decide +kernel
theorem dX6_requireDays_9 : decode cX6_requireDays 9 = .ok (.iload_n 2, 1) := by decide +kernel
theorem dX6_requireDays_10 : decode cX6_requireDays 10 = .ok (.bipush 100, 2) := by decide +kernel
theorem dX6_requireDays_12 : decode cX6_requireDays 12 = .ok (.if_icmp .le 14, 3) := by decide +kernel
theorem dX6_requireDays_15 : decode cX6_requireDays 15 = .ok (.new 152, 3) := by decide +kernel
theorem dX6_requireDays_18 : decode cX6_requireDays 18 = .ok (.dup, 1) := by decide +kernel
theorem dX6_requireDays_19 : decode cX6_requireDays 19 = .ok (.ldc_w 277, 3) := by decide +kernel
theorem dX6_requireDays_22 : decode cX6_requireDays 22 = .ok (.invokespecial 156, 3) := by decide +kernel
theorem dX6_requireDays_25 : decode cX6_requireDays 25 = .ok (.athrow, 1) := by decide +kernel
theorem dX6_requireDays_26 : decode cX6_requireDays 26 = .ok (.return_, 1) := by decide +kernel
theorem dX6_requireFreeTick_0 : decode cX6_requireFreeTick 0 = .ok (.aload_n 0, 1) := by decide +kernel
theorem dX6_requireFreeTick_1 : decode cX6_requireFreeTick 1 = .ok (.getfield 12, 3) := by decide +kernel
theorem dX6_requireFreeTick_4 : decode cX6_requireFreeTick 4 = .ok (.invokevirtual 279, 3) := by decide +kernel
theorem dX6_requireFreeTick_7 : decode cX6_requireFreeTick 7 = .ok (.ifCond .eq 14, 3) := by decide +kernel
theorem dX6_requireFreeTick_10 : decode cX6_requireFreeTick 10 = .ok (.new 58, 3) := by decide +kernel
theorem dX6_requireFreeTick_13 : decode cX6_requireFreeTick 13 = .ok (.dup, 1) := by decide +kernel
theorem dX6_requireFreeTick_14 : decode cX6_requireFreeTick 14 = .ok (.ldc_w 283, 3) := by decide +kernel
theorem dX6_requireFreeTick_17 : decode cX6_requireFreeTick 17 = .ok (.invokespecial 62, 3) := by decide +kernel
theorem dX6_requireFreeTick_20 : decode cX6_requireFreeTick 20 = .ok (.athrow, 1) := by decide +kernel
theorem dX6_requireFreeTick_21 : decode cX6_requireFreeTick 21 = .ok (.return_, 1) := by decide +kernel
theorem dX6_requireOperation_0 : decode cX6_requireOperation 0 = .ok (.iload_n 1, 1) := by decide +kernel
theorem dX6_requireOperation_1 : decode cX6_requireOperation 1 = .ok (.iconst 1, 1) := by decide +kernel
theorem dX6_requireOperation_2 : decode cX6_requireOperation 2 = .ok (.if_icmp .lt 14, 3) := by decide +kernel
theorem dX6_requireOperation_5 : decode cX6_requireOperation 5 = .ok (.iload_n 1, 1) := by decide +kernel
theorem dX6_requireOperation_6 : decode cX6_requireOperation 6 = .ok (.aload_n 0, 1) := by decide +kernel
theorem dX6_requireOperation_7 : decode cX6_requireOperation 7 = .ok (.getfield 12, 3) := by decide +kernel
theorem dX6_requireOperation_10 : decode cX6_requireOperation 10 = .ok (.invokevirtual 83, 3) := by decide +kernel
theorem dX6_requireOperation_13 : decode cX6_requireOperation 13 = .ok (.if_icmp .le 13, 3) := by decide +kernel
theorem dX6_requireOperation_16 : decode cX6_requireOperation 16 = .ok (.new 152, 3) := by decide +kernel
theorem dX6_requireOperation_19 : decode cX6_requireOperation 19 = .ok (.dup, 1) := by decide +kernel
theorem dX6_requireOperation_20 : decode cX6_requireOperation 20 = .ok (.ldc 154, 2) := by decide +kernel
theorem dX6_requireOperation_22 : decode cX6_requireOperation 22 = .ok (.invokespecial 156, 3) := by decide +kernel
theorem dX6_requireOperation_25 : decode cX6_requireOperation 25 = .ok (.athrow, 1) := by decide +kernel
theorem dX6_requireOperation_26 : decode cX6_requireOperation 26 = .ok (.return_, 1) := by decide +kernel
theorem dX6_requireFact_0 : decode cX6_requireFact 0 = .ok (.aload_n 0, 1) := by decide +kernel
theorem dX6_requireFact_1 : decode cX6_requireFact 1 = .ok (.getfield 19, 3) := by decide +kernel
theorem dX6_requireFact_4 : decode cX6_requireFact 4 = .ok (.iload_n 1, 1) := by decide +kernel
theorem dX6_requireFact_5 : decode cX6_requireFact 5 = .ok (.invokevirtual 290, 3) := by decide +kernel
theorem dX6_requireFact_8 : decode cX6_requireFact 8 = .ok (.ifCond .ne 14, 3) := by decide +kernel
theorem dX6_requireFact_11 : decode cX6_requireFact 11 = .ok (.new 91, 3) := by decide +kernel
theorem dX6_requireFact_14 : decode cX6_requireFact 14 = .ok (.dup, 1) := by decide +kernel
theorem dX6_requireFact_15 : decode cX6_requireFact 15 = .ok (.ldc_w 293, 3) := by decide +kernel
theorem dX6_requireFact_18 : decode cX6_requireFact 18 = .ok (.invokespecial 95, 3) := by decide +kernel
theorem dX6_requireFact_21 : decode cX6_requireFact 21 = .ok (.athrow, 1) := by decide +kernel
theorem dX6_requireFact_22 : decode cX6_requireFact 22 = .ok (.return_, 1) := by decide +kernel
theorem dX6_requireKnown_0 : decode cX6_requireKnown 0 = .ok (.iload_n 1, 1) := by decide +kernel
theorem dX6_requireKnown_1 : decode cX6_requireKnown 1 = .ok (.ifCond .ne 14, 3) := by decide +kernel
theorem dX6_requireKnown_4 : decode cX6_requireKnown 4 = .ok (.new 91, 3) := by decide +kernel
theorem dX6_requireKnown_7 : decode cX6_requireKnown 7 = .ok (.dup, 1) := by decide +kernel
theorem dX6_requireKnown_8 : decode cX6_requireKnown 8 = .ok (.ldc_w 295, 3) := by decide +kernel
theorem dX6_requireKnown_11 : decode cX6_requireKnown 11 = .ok (.invokespecial 95, 3) := by decide +kernel
theorem dX6_requireKnown_14 : decode cX6_requireKnown 14 = .ok (.athrow, 1) := by decide +kernel
theorem dX6_requireKnown_15 : decode cX6_requireKnown 15 = .ok (.return_, 1) := by decide +kernel
theorem dX7_init_0 : decode cX7_init 0 = .ok (.aload_n 0, 1) := by decide +kernel
theorem dX7_init_1 : decode cX7_init 1 = .ok (.invokespecial 1, 3) := by decide +kernel
theorem dX7_init_4 : decode cX7_init 4 = .ok (.aload_n 0, 1) := by decide +kernel
theorem dX7_init_5 : decode cX7_init 5 = .ok (.bipush 120, 2) := by decide +kernel
theorem dX7_init_7 : decode cX7_init 7 = .ok (.newarray .int, 2) := by decide +kernel
theorem dX7_init_9 : decode cX7_init 9 = .ok (.putfield 7, 3) := by decide +kernel
theorem dX7_init_12 : decode cX7_init 12 = .ok (.aload_n 0, 1) := by decide +kernel
theorem dX7_init_13 : decode cX7_init 13 = .ok (.bipush 120, 2) := by decide +kernel
theorem dX7_init_15 : decode cX7_init 15 = .ok (.newarray .int, 2) := by decide +kernel
theorem dX7_init_17 : decode cX7_init 17 = .ok (.putfield 13, 3) := by decide +kernel
theorem dX7_init_20 : decode cX7_init 20 = .ok (.aload_n 0, 1) := by decide +kernel
theorem dX7_init_21 : decode cX7_init 21 = .ok (.bipush 120, 2) := by decide +kernel
theorem dX7_init_23 : decode cX7_init 23 = .ok (.newarray .int, 2) := by decide +kernel
theorem dX7_init_25 : decode cX7_init 25 = .ok (.putfield 16, 3) := by decide +kernel
theorem dX7_init_28 : decode cX7_init 28 = .ok (.aload_n 0, 1) := by decide +kernel
theorem dX7_init_29 : decode cX7_init 29 = .ok (.bipush 120, 2) := by decide +kernel
theorem dX7_init_31 : decode cX7_init 31 = .ok (.newarray .int, 2) := by decide +kernel
theorem dX7_init_33 : decode cX7_init 33 = .ok (.putfield 19, 3) := by decide +kernel
theorem dX7_init_36 : decode cX7_init 36 = .ok (.aload_n 0, 1) := by decide +kernel
theorem dX7_init_37 : decode cX7_init 37 = .ok (.bipush 120, 2) := by decide +kernel
theorem dX7_init_39 : decode cX7_init 39 = .ok (.newarray .int, 2) := by decide +kernel
theorem dX7_init_41 : decode cX7_init 41 = .ok (.putfield 22, 3) := by decide +kernel
theorem dX7_init_44 : decode cX7_init 44 = .ok (.aload_n 0, 1) := by decide +kernel
theorem dX7_init_45 : decode cX7_init 45 = .ok (.bipush 120, 2) := by decide +kernel
theorem dX7_init_47 : decode cX7_init 47 = .ok (.newarray .int, 2) := by decide +kernel
theorem dX7_init_49 : decode cX7_init 49 = .ok (.putfield 25, 3) := by decide +kernel
theorem dX7_init_52 : decode cX7_init 52 = .ok (.aload_n 0, 1) := by decide +kernel
theorem dX7_init_53 : decode cX7_init 53 = .ok (.bipush 120, 2) := by decide +kernel
theorem dX7_init_55 : decode cX7_init 55 = .ok (.newarray .boolean, 2) := by decide +kernel
theorem dX7_init_57 : decode cX7_init 57 = .ok (.putfield 28, 3) := by decide +kernel
theorem dX7_init_60 : decode cX7_init 60 = .ok (.aload_n 0, 1) := by decide +kernel
theorem dX7_init_61 : decode cX7_init 61 = .ok (.bipush 40, 2) := by decide +kernel
theorem dX7_init_63 : decode cX7_init 63 = .ok (.newarray .char, 2) := by decide +kernel
theorem dX7_init_65 : decode cX7_init 65 = .ok (.putfield 32, 3) := by decide +kernel
theorem dX7_init_68 : decode cX7_init 68 = .ok (.aload_n 0, 1) := by decide +kernel
theorem dX7_init_69 : decode cX7_init 69 = .ok (.bipush 40, 2) := by decide +kernel
theorem dX7_init_71 : decode cX7_init 71 = .ok (.newarray .int, 2) := by decide +kernel
theorem dX7_init_73 : decode cX7_init 73 = .ok (.putfield 36, 3) := by decide +kernel
theorem dX7_init_76 : decode cX7_init 76 = .ok (.return_, 1) := by decide +kernel
theorem dX7_open_0 : decode cX7_open 0 = .ok (.aload_n 0, 1) := by decide +kernel
theorem dX7_open_1 : decode cX7_open 1 = .ok (.getfield 7, 3) := by decide +kernel
theorem dX7_open_4 : decode cX7_open 4 = .ok (.aload_n 0, 1) := by decide +kernel
theorem dX7_open_5 : decode cX7_open 5 = .ok (.getfield 39, 3) := by decide +kernel
theorem dX7_open_8 : decode cX7_open 8 = .ok (.iload_n 1, 1) := by decide +kernel
theorem dX7_open_9 : decode cX7_open 9 = .ok (.iastore, 1) := by decide +kernel
theorem dX7_open_10 : decode cX7_open 10 = .ok (.aload_n 0, 1) := by decide +kernel
theorem dX7_open_11 : decode cX7_open 11 = .ok (.getfield 13, 3) := by decide +kernel
theorem dX7_open_14 : decode cX7_open 14 = .ok (.aload_n 0, 1) := by decide +kernel
theorem dX7_open_15 : decode cX7_open 15 = .ok (.getfield 39, 3) := by decide +kernel
theorem dX7_open_18 : decode cX7_open 18 = .ok (.iload_n 2, 1) := by decide +kernel
theorem dX7_open_19 : decode cX7_open 19 = .ok (.iastore, 1) := by decide +kernel
theorem dX7_open_20 : decode cX7_open 20 = .ok (.aload_n 0, 1) := by decide +kernel
theorem dX7_open_21 : decode cX7_open 21 = .ok (.getfield 16, 3) := by decide +kernel
theorem dX7_open_24 : decode cX7_open 24 = .ok (.aload_n 0, 1) := by decide +kernel
theorem dX7_open_25 : decode cX7_open 25 = .ok (.getfield 39, 3) := by decide +kernel
theorem dX7_open_28 : decode cX7_open 28 = .ok (.iload_n 3, 1) := by decide +kernel
theorem dX7_open_29 : decode cX7_open 29 = .ok (.iastore, 1) := by decide +kernel
theorem dX7_open_30 : decode cX7_open 30 = .ok (.aload_n 0, 1) := by decide +kernel
theorem dX7_open_31 : decode cX7_open 31 = .ok (.getfield 19, 3) := by decide +kernel
theorem dX7_open_34 : decode cX7_open 34 = .ok (.aload_n 0, 1) := by decide +kernel
theorem dX7_open_35 : decode cX7_open 35 = .ok (.getfield 39, 3) := by decide +kernel
theorem dX7_open_38 : decode cX7_open 38 = .ok (.iload 4, 2) := by decide +kernel
theorem dX7_open_40 : decode cX7_open 40 = .ok (.iastore, 1) := by decide +kernel
theorem dX7_open_41 : decode cX7_open 41 = .ok (.aload_n 0, 1) := by decide +kernel
theorem dX7_open_42 : decode cX7_open 42 = .ok (.getfield 22, 3) := by decide +kernel
theorem dX7_open_45 : decode cX7_open 45 = .ok (.aload_n 0, 1) := by decide +kernel
theorem dX7_open_46 : decode cX7_open 46 = .ok (.getfield 39, 3) := by decide +kernel
theorem dX7_open_49 : decode cX7_open 49 = .ok (.aload_n 0, 1) := by decide +kernel
theorem dX7_open_50 : decode cX7_open 50 = .ok (.getfield 43, 3) := by decide +kernel
theorem dX7_open_53 : decode cX7_open 53 = .ok (.iastore, 1) := by decide +kernel
theorem dX7_open_54 : decode cX7_open 54 = .ok (.aload_n 0, 1) := by decide +kernel
theorem dX7_open_55 : decode cX7_open 55 = .ok (.getfield 25, 3) := by decide +kernel
theorem dX7_open_58 : decode cX7_open 58 = .ok (.aload_n 0, 1) := by decide +kernel
theorem dX7_open_59 : decode cX7_open 59 = .ok (.getfield 39, 3) := by decide +kernel
theorem dX7_open_62 : decode cX7_open 62 = .ok (.iconst (-1), 1) := by decide +kernel
theorem dX7_open_63 : decode cX7_open 63 = .ok (.iastore, 1) := by decide +kernel
theorem dX7_open_64 : decode cX7_open 64 = .ok (.aload_n 0, 1) := by decide +kernel
theorem dX7_open_65 : decode cX7_open 65 = .ok (.dup, 1) := by decide +kernel
theorem dX7_open_66 : decode cX7_open 66 = .ok (.getfield 39, 3) := by decide +kernel
theorem dX7_open_69 : decode cX7_open 69 = .ok (.iconst 1, 1) := by decide +kernel
theorem dX7_open_70 : decode cX7_open 70 = .ok (.iadd, 1) := by decide +kernel
theorem dX7_open_71 : decode cX7_open 71 = .ok (.putfield 39, 3) := by decide +kernel
theorem dX7_open_74 : decode cX7_open 74 = .ok (.return_, 1) := by decide +kernel
theorem dX7_isHit_0 : decode cX7_isHit 0 = .ok (.aload_n 0, 1) := by decide +kernel
theorem dX7_isHit_1 : decode cX7_isHit 1 = .ok (.getfield 7, 3) := by decide +kernel
theorem dX7_isHit_4 : decode cX7_isHit 4 = .ok (.iload_n 1, 1) := by decide +kernel
theorem dX7_isHit_5 : decode cX7_isHit 5 = .ok (.iaload, 1) := by decide +kernel
theorem dX7_isHit_6 : decode cX7_isHit 6 = .ok (.iload_n 2, 1) := by decide +kernel
theorem dX7_isHit_7 : decode cX7_isHit 7 = .ok (.if_icmp .ne 37, 3) := by decide +kernel
theorem dX7_isHit_10 : decode cX7_isHit 10 = .ok (.aload_n 0, 1) := by decide +kernel
theorem dX7_isHit_11 : decode cX7_isHit 11 = .ok (.getfield 25, 3) := by decide +kernel
theorem dX7_isHit_14 : decode cX7_isHit 14 = .ok (.iload_n 1, 1) := by decide +kernel
theorem dX7_isHit_15 : decode cX7_isHit 15 = .ok (.iaload, 1) := by decide +kernel
theorem dX7_isHit_16 : decode cX7_isHit 16 = .ok (.ifCond .ge 28, 3) := by decide +kernel
theorem dX7_isHit_19 : decode cX7_isHit 19 = .ok (.aload_n 0, 1) := by decide +kernel
theorem dX7_isHit_20 : decode cX7_isHit 20 = .ok (.getfield 16, 3) := by decide +kernel
theorem dX7_isHit_23 : decode cX7_isHit 23 = .ok (.iload_n 1, 1) := by decide +kernel
theorem dX7_isHit_24 : decode cX7_isHit 24 = .ok (.iaload, 1) := by decide +kernel
theorem dX7_isHit_25 : decode cX7_isHit 25 = .ok (.iload 4, 2) := by decide +kernel
theorem dX7_isHit_27 : decode cX7_isHit 27 = .ok (.if_icmp .ge 17, 3) := by decide +kernel
theorem dX7_isHit_30 : decode cX7_isHit 30 = .ok (.iload_n 3, 1) := by decide +kernel
theorem dX7_isHit_31 : decode cX7_isHit 31 = .ok (.aload_n 0, 1) := by decide +kernel
theorem dX7_isHit_32 : decode cX7_isHit 32 = .ok (.getfield 19, 3) := by decide +kernel
theorem dX7_isHit_35 : decode cX7_isHit 35 = .ok (.iload_n 1, 1) := by decide +kernel
theorem dX7_isHit_36 : decode cX7_isHit 36 = .ok (.iaload, 1) := by decide +kernel
theorem dX7_isHit_37 : decode cX7_isHit 37 = .ok (.if_icmp .ge 7, 3) := by decide +kernel
theorem dX7_isHit_40 : decode cX7_isHit 40 = .ok (.iconst 1, 1) := by decide +kernel
theorem dX7_isHit_41 : decode cX7_isHit 41 = .ok (.goto 4, 3) := by decide +kernel
theorem dX7_isHit_44 : decode cX7_isHit 44 = .ok (.iconst 0, 1) := by decide +kernel
theorem dX7_isHit_45 : decode cX7_isHit 45 = .ok (.ireturn, 1) := by decide +kernel
theorem dX7_days_0 : decode cX7_days 0 = .ok (.iconst 0, 1) := by decide +kernel
theorem dX7_days_1 : decode cX7_days 1 = .ok (.istore 4, 2) := by decide +kernel
theorem dX7_days_3 : decode cX7_days 3 = .ok (.iconst 0, 1) := by decide +kernel
theorem dX7_days_4 : decode cX7_days 4 = .ok (.istore 5, 2) := by decide +kernel
theorem dX7_days_6 : decode cX7_days 6 = .ok (.iload 5, 2) := by decide +kernel
theorem dX7_days_8 : decode cX7_days 8 = .ok (.aload_n 0, 1) := by decide +kernel
theorem dX7_days_9 : decode cX7_days 9 = .ok (.getfield 39, 3) := by decide +kernel
theorem dX7_days_12 : decode cX7_days 12 = .ok (.if_icmp .ge 53, 3) := by decide +kernel
theorem dX7_days_15 : decode cX7_days 15 = .ok (.iload 4, 2) := by decide +kernel
theorem dX7_days_17 : decode cX7_days 17 = .ok (.aload_n 0, 1) := by decide +kernel
theorem dX7_days_18 : decode cX7_days 18 = .ok (.iload 5, 2) := by decide +kernel
theorem dX7_days_20 : decode cX7_days 20 = .ok (.iload_n 1, 1) := by decide +kernel
theorem dX7_days_21 : decode cX7_days 21 = .ok (.iload_n 2, 1) := by decide +kernel
theorem dX7_days_22 : decode cX7_days 22 = .ok (.iload_n 3, 1) := by decide +kernel
theorem dX7_days_23 : decode cX7_days 23 = .ok (.invokevirtual 46, 3) := by decide +kernel
theorem dX7_days_26 : decode cX7_days 26 = .ok (.ifCond .eq 29, 3) := by decide +kernel
theorem dX7_days_29 : decode cX7_days 29 = .ok (.iload_n 3, 1) := by decide +kernel
theorem dX7_days_30 : decode cX7_days 30 = .ok (.aload_n 0, 1) := by decide +kernel
theorem dX7_days_31 : decode cX7_days 31 = .ok (.getfield 19, 3) := by decide +kernel
theorem dX7_days_34 : decode cX7_days 34 = .ok (.iload 5, 2) := by decide +kernel
theorem dX7_days_36 : decode cX7_days 36 = .ok (.iaload, 1) := by decide +kernel
theorem dX7_days_37 : decode cX7_days 37 = .ok (.invokestatic 50, 3) := by decide +kernel
theorem dX7_days_40 : decode cX7_days 40 = .ok (.iload_n 2, 1) := by decide +kernel
theorem dX7_days_41 : decode cX7_days 41 = .ok (.aload_n 0, 1) := by decide +kernel
theorem dX7_days_42 : decode cX7_days 42 = .ok (.getfield 16, 3) := by decide +kernel
theorem dX7_days_45 : decode cX7_days 45 = .ok (.iload 5, 2) := by decide +kernel
theorem dX7_days_47 : decode cX7_days 47 = .ok (.iaload, 1) := by decide +kernel
theorem dX7_days_48 : decode cX7_days 48 = .ok (.invokestatic 56, 3) := by decide +kernel
theorem dX7_days_51 : decode cX7_days 51 = .ok (.isub, 1) := by decide +kernel
theorem dX7_days_52 : decode cX7_days 52 = .ok (.goto 4, 3) := by decide +kernel
theorem dX7_days_55 : decode cX7_days 55 = .ok (.iconst 0, 1) := by decide +kernel
theorem dX7_days_56 : decode cX7_days 56 = .ok (.iadd, 1) := by decide +kernel
theorem dX7_days_57 : decode cX7_days 57 = .ok (.istore 4, 2) := by decide +kernel
theorem dX7_days_59 : decode cX7_days 59 = .ok (.iinc 5 1, 3) := by decide +kernel
theorem dX7_days_62 : decode cX7_days 62 = .ok (.goto (-56), 3) := by decide +kernel
theorem dX7_days_65 : decode cX7_days 65 = .ok (.iload 4, 2) := by decide +kernel
theorem dX7_days_67 : decode cX7_days 67 = .ok (.ireturn, 1) := by decide +kernel
theorem dX7_close_0 : decode cX7_close 0 = .ok (.aload_n 0, 1) := by decide +kernel
theorem dX7_close_1 : decode cX7_close 1 = .ok (.getfield 39, 3) := by decide +kernel
theorem dX7_close_4 : decode cX7_close 4 = .ok (.istore 4, 2) := by decide +kernel
theorem dX7_close_6 : decode cX7_close 6 = .ok (.iconst 0, 1) := by decide +kernel
theorem dX7_close_7 : decode cX7_close 7 = .ok (.istore 5, 2) := by decide +kernel
theorem dX7_close_9 : decode cX7_close 9 = .ok (.iconst 0, 1) := by decide +kernel
theorem dX7_close_10 : decode cX7_close 10 = .ok (.istore 6, 2) := by decide +kernel
theorem dX7_close_12 : decode cX7_close 12 = .ok (.iload 6, 2) := by decide +kernel
theorem dX7_close_14 : decode cX7_close 14 = .ok (.bipush 100, 2) := by decide +kernel
theorem dX7_close_16 : decode cX7_close 16 = .ok (.if_icmp .ge 125, 3) := by decide +kernel
theorem dX7_close_19 : decode cX7_close 19 = .ok (.iconst 0, 1) := by decide +kernel
theorem dX7_close_20 : decode cX7_close 20 = .ok (.istore 7, 2) := by decide +kernel
theorem dX7_close_22 : decode cX7_close 22 = .ok (.iload 7, 2) := by decide +kernel
theorem dX7_close_24 : decode cX7_close 24 = .ok (.iload 4, 2) := by decide +kernel
theorem dX7_close_26 : decode cX7_close 26 = .ok (.if_icmp .ge 109, 3) := by decide +kernel
theorem dX7_close_29 : decode cX7_close 29 = .ok (.aload_n 0, 1) := by decide +kernel
theorem dX7_close_30 : decode cX7_close 30 = .ok (.getfield 16, 3) := by decide +kernel
theorem dX7_close_33 : decode cX7_close 33 = .ok (.iload 7, 2) := by decide +kernel
theorem dX7_close_35 : decode cX7_close 35 = .ok (.iaload, 1) := by decide +kernel
theorem dX7_close_36 : decode cX7_close 36 = .ok (.iload 6, 2) := by decide +kernel
theorem dX7_close_38 : decode cX7_close 38 = .ok (.if_icmp .ne 91, 3) := by decide +kernel
theorem dX7_close_41 : decode cX7_close 41 = .ok (.aload_n 0, 1) := by decide +kernel
theorem dX7_close_42 : decode cX7_close 42 = .ok (.iload 7, 2) := by decide +kernel
theorem dX7_close_44 : decode cX7_close 44 = .ok (.iload_n 1, 1) := by decide +kernel
theorem dX7_close_45 : decode cX7_close 45 = .ok (.iload_n 2, 1) := by decide +kernel
theorem dX7_close_46 : decode cX7_close 46 = .ok (.iload_n 3, 1) := by decide +kernel
theorem dX7_close_47 : decode cX7_close 47 = .ok (.invokevirtual 46, 3) := by decide +kernel
theorem dX7_close_50 : decode cX7_close 50 = .ok (.ifCond .eq 79, 3) := by decide +kernel
theorem dX7_close_53 : decode cX7_close 53 = .ok (.aload_n 0, 1) := by decide +kernel
theorem dX7_close_54 : decode cX7_close 54 = .ok (.getfield 25, 3) := by decide +kernel
theorem dX7_close_57 : decode cX7_close 57 = .ok (.iload 7, 2) := by decide +kernel
theorem dX7_close_59 : decode cX7_close 59 = .ok (.aload_n 0, 1) := by decide +kernel
theorem dX7_close_60 : decode cX7_close 60 = .ok (.getfield 43, 3) := by decide +kernel
theorem dX7_close_63 : decode cX7_close 63 = .ok (.iastore, 1) := by decide +kernel
theorem dX7_close_64 : decode cX7_close 64 = .ok (.iinc 5 1, 3) := by decide +kernel
theorem dX7_close_67 : decode cX7_close 67 = .ok (.aload_n 0, 1) := by decide +kernel
theorem dX7_close_68 : decode cX7_close 68 = .ok (.getfield 16, 3) := by decide +kernel
theorem dX7_close_71 : decode cX7_close 71 = .ok (.iload 7, 2) := by decide +kernel
theorem dX7_close_73 : decode cX7_close 73 = .ok (.iaload, 1) := by decide +kernel
theorem dX7_close_74 : decode cX7_close 74 = .ok (.iload_n 2, 1) := by decide +kernel
theorem dX7_close_75 : decode cX7_close 75 = .ok (.if_icmp .ge 23, 3) := by decide +kernel
theorem dX7_close_78 : decode cX7_close 78 = .ok (.aload_n 0, 1) := by decide +kernel
theorem dX7_close_79 : decode cX7_close 79 = .ok (.iload_n 1, 1) := by decide +kernel
theorem dX7_close_80 : decode cX7_close 80 = .ok (.aload_n 0, 1) := by decide +kernel
theorem dX7_close_81 : decode cX7_close 81 = .ok (.getfield 13, 3) := by decide +kernel
theorem dX7_close_84 : decode cX7_close 84 = .ok (.iload 7, 2) := by decide +kernel
theorem dX7_close_86 : decode cX7_close 86 = .ok (.iaload, 1) := by decide +kernel
theorem dX7_close_87 : decode cX7_close 87 = .ok (.aload_n 0, 1) := by decide +kernel
theorem dX7_close_88 : decode cX7_close 88 = .ok (.getfield 16, 3) := by decide +kernel
theorem dX7_close_91 : decode cX7_close 91 = .ok (.iload 7, 2) := by decide +kernel
theorem dX7_close_93 : decode cX7_close 93 = .ok (.iaload, 1) := by decide +kernel
theorem dX7_close_94 : decode cX7_close 94 = .ok (.iload_n 2, 1) := by decide +kernel
theorem dX7_close_95 : decode cX7_close 95 = .ok (.invokevirtual 59, 3) := by decide +kernel
theorem dX7_close_98 : decode cX7_close 98 = .ok (.iload_n 3, 1) := by decide +kernel
theorem dX7_close_99 : decode cX7_close 99 = .ok (.aload_n 0, 1) := by decide +kernel
theorem dX7_close_100 : decode cX7_close 100 = .ok (.getfield 19, 3) := by decide +kernel
theorem dX7_close_103 : decode cX7_close 103 = .ok (.iload 7, 2) := by decide +kernel
theorem dX7_close_105 : decode cX7_close 105 = .ok (.iaload, 1) := by decide +kernel
theorem dX7_close_106 : decode cX7_close 106 = .ok (.if_icmp .ge 23, 3) := by decide +kernel
theorem dX7_close_109 : decode cX7_close 109 = .ok (.aload_n 0, 1) := by decide +kernel
theorem dX7_close_110 : decode cX7_close 110 = .ok (.iload_n 1, 1) := by decide +kernel
theorem dX7_close_111 : decode cX7_close 111 = .ok (.aload_n 0, 1) := by decide +kernel
theorem dX7_close_112 : decode cX7_close 112 = .ok (.getfield 13, 3) := by decide +kernel
theorem dX7_close_115 : decode cX7_close 115 = .ok (.iload 7, 2) := by decide +kernel
theorem dX7_close_117 : decode cX7_close 117 = .ok (.iaload, 1) := by decide +kernel
theorem dX7_close_118 : decode cX7_close 118 = .ok (.iload_n 3, 1) := by decide +kernel
theorem dX7_close_119 : decode cX7_close 119 = .ok (.aload_n 0, 1) := by decide +kernel
theorem dX7_close_120 : decode cX7_close 120 = .ok (.getfield 19, 3) := by decide +kernel
theorem dX7_close_123 : decode cX7_close 123 = .ok (.iload 7, 2) := by decide +kernel
theorem dX7_close_125 : decode cX7_close 125 = .ok (.iaload, 1) := by decide +kernel
theorem dX7_close_126 : decode cX7_close 126 = .ok (.invokevirtual 59, 3) := by decide +kernel
theorem dX7_close_129 : decode cX7_close 129 = .ok (.iinc 7 1, 3) := by decide +kernel
theorem dX7_close_132 : decode cX7_close 132 = .ok (.goto (-110), 3) := by decide +kernel
theorem dX7_close_135 : decode cX7_close 135 = .ok (.iinc 6 1, 3) := by decide +kernel
theorem dX7_close_138 : decode cX7_close 138 = .ok (.goto (-126), 3) := by decide +kernel
theorem dX7_close_141 : decode cX7_close 141 = .ok (.iload 5, 2) := by decide +kernel
theorem dX7_close_143 : decode cX7_close 143 = .ok (.ireturn, 1) := by decide +kernel
theorem dX7_begin_0 : decode cX7_begin 0 = .ok (.aload_n 0, 1) := by decide +kernel
theorem dX7_begin_1 : decode cX7_begin 1 = .ok (.dup, 1) := by decide +kernel
theorem dX7_begin_2 : decode cX7_begin 2 = .ok (.getfield 43, 3) := by decide +kernel
theorem dX7_begin_5 : decode cX7_begin 5 = .ok (.iconst 1, 1) := by decide +kernel
theorem dX7_begin_6 : decode cX7_begin 6 = .ok (.iadd, 1) := by decide +kernel
theorem dX7_begin_7 : decode cX7_begin 7 = .ok (.putfield 43, 3) := by decide +kernel
theorem dX7_begin_10 : decode cX7_begin 10 = .ok (.aload_n 0, 1) := by decide +kernel
theorem dX7_begin_11 : decode cX7_begin 11 = .ok (.getfield 32, 3) := by decide +kernel
theorem dX7_begin_14 : decode cX7_begin 14 = .ok (.aload_n 0, 1) := by decide +kernel
theorem dX7_begin_15 : decode cX7_begin 15 = .ok (.getfield 43, 3) := by decide +kernel
theorem dX7_begin_18 : decode cX7_begin 18 = .ok (.iload_n 1, 1) := by decide +kernel
theorem dX7_begin_19 : decode cX7_begin 19 = .ok (.castore, 1) := by decide +kernel
theorem dX7_begin_20 : decode cX7_begin 20 = .ok (.aload_n 0, 1) := by decide +kernel
theorem dX7_begin_21 : decode cX7_begin 21 = .ok (.getfield 36, 3) := by decide +kernel
theorem dX7_begin_24 : decode cX7_begin 24 = .ok (.aload_n 0, 1) := by decide +kernel
theorem dX7_begin_25 : decode cX7_begin 25 = .ok (.getfield 43, 3) := by decide +kernel
theorem dX7_begin_28 : decode cX7_begin 28 = .ok (.iload_n 2, 1) := by decide +kernel
theorem dX7_begin_29 : decode cX7_begin 29 = .ok (.iastore, 1) := by decide +kernel
theorem dX7_begin_30 : decode cX7_begin 30 = .ok (.return_, 1) := by decide +kernel
theorem dX7_openOn_0 : decode cX7_openOn 0 = .ok (.iconst 0, 1) := by decide +kernel
theorem dX7_openOn_1 : decode cX7_openOn 1 = .ok (.istore_n 3, 1) := by decide +kernel
theorem dX7_openOn_2 : decode cX7_openOn 2 = .ok (.iload_n 3, 1) := by decide +kernel
theorem dX7_openOn_3 : decode cX7_openOn 3 = .ok (.aload_n 0, 1) := by decide +kernel
theorem dX7_openOn_4 : decode cX7_openOn 4 = .ok (.getfield 39, 3) := by decide +kernel
theorem dX7_openOn_7 : decode cX7_openOn 7 = .ok (.if_icmp .ge 24, 3) := by decide +kernel
theorem dX7_openOn_10 : decode cX7_openOn 10 = .ok (.aload_n 0, 1) := by decide +kernel
theorem dX7_openOn_11 : decode cX7_openOn 11 = .ok (.iload_n 3, 1) := by decide +kernel
theorem dX7_openOn_12 : decode cX7_openOn 12 = .ok (.iload_n 1, 1) := by decide +kernel
theorem dX7_openOn_13 : decode cX7_openOn 13 = .ok (.iload_n 2, 1) := by decide +kernel
theorem dX7_openOn_14 : decode cX7_openOn 14 = .ok (.iload_n 2, 1) := by decide +kernel
theorem dX7_openOn_15 : decode cX7_openOn 15 = .ok (.iconst 1, 1) := by decide +kernel
theorem dX7_openOn_16 : decode cX7_openOn 16 = .ok (.iadd, 1) := by decide +kernel
theorem dX7_openOn_17 : decode cX7_openOn 17 = .ok (.invokevirtual 46, 3) := by decide +kernel
theorem dX7_openOn_20 : decode cX7_openOn 20 = .ok (.ifCond .eq 5, 3) := by decide +kernel
theorem dX7_openOn_23 : decode cX7_openOn 23 = .ok (.iload_n 3, 1) := by decide +kernel
theorem dX7_openOn_24 : decode cX7_openOn 24 = .ok (.ireturn, 1) := by decide +kernel
theorem dX7_openOn_25 : decode cX7_openOn 25 = .ok (.iinc 3 1, 3) := by decide +kernel
theorem dX7_openOn_28 : decode cX7_openOn 28 = .ok (.goto (-26), 3) := by decide +kernel
theorem dX7_openOn_31 : decode cX7_openOn 31 = .ok (.iconst (-1), 1) := by decide +kernel
theorem dX7_openOn_32 : decode cX7_openOn 32 = .ok (.ireturn, 1) := by decide +kernel
