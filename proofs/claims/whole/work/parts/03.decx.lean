theorem dX0_init_0 : decode cX0_init 0 = .ok (.aload_n 0, 1) := by decide +kernel
theorem dX0_init_1 : decode cX0_init 1 = .ok (.invokespecial 3, 3) := by decide +kernel
theorem dX0_init_4 : decode cX0_init 4 = .ok (.aload_n 0, 1) := by decide +kernel
theorem dX0_init_5 : decode cX0_init 5 = .ok (.sipush 180, 3) := by decide +kernel
theorem dX0_init_8 : decode cX0_init 8 = .ok (.newarray .int, 2) := by decide +kernel
theorem dX0_init_10 : decode cX0_init 10 = .ok (.putfield 9, 3) := by decide +kernel
theorem dX0_init_13 : decode cX0_init 13 = .ok (.aload_n 0, 1) := by decide +kernel
theorem dX0_init_14 : decode cX0_init 14 = .ok (.sipush 180, 3) := by decide +kernel
theorem dX0_init_17 : decode cX0_init 17 = .ok (.newarray .int, 2) := by decide +kernel
theorem dX0_init_19 : decode cX0_init 19 = .ok (.putfield 15, 3) := by decide +kernel
theorem dX0_init_22 : decode cX0_init 22 = .ok (.aload_n 0, 1) := by decide +kernel
theorem dX0_init_23 : decode cX0_init 23 = .ok (.sipush 180, 3) := by decide +kernel
theorem dX0_init_26 : decode cX0_init 26 = .ok (.newarray .int, 2) := by decide +kernel
theorem dX0_init_28 : decode cX0_init 28 = .ok (.putfield 18, 3) := by decide +kernel
theorem dX0_init_31 : decode cX0_init 31 = .ok (.aload_n 0, 1) := by decide +kernel
theorem dX0_init_32 : decode cX0_init 32 = .ok (.sipush 180, 3) := by decide +kernel
theorem dX0_init_35 : decode cX0_init 35 = .ok (.newarray .int, 2) := by decide +kernel
theorem dX0_init_37 : decode cX0_init 37 = .ok (.putfield 21, 3) := by decide +kernel
theorem dX0_init_40 : decode cX0_init 40 = .ok (.aload_n 0, 1) := by decide +kernel
theorem dX0_init_41 : decode cX0_init 41 = .ok (.sipush 180, 3) := by decide +kernel
theorem dX0_init_44 : decode cX0_init 44 = .ok (.newarray .int, 2) := by decide +kernel
theorem dX0_init_46 : decode cX0_init 46 = .ok (.putfield 24, 3) := by decide +kernel
theorem dX0_init_49 : decode cX0_init 49 = .ok (.aload_n 0, 1) := by decide +kernel
theorem dX0_init_50 : decode cX0_init 50 = .ok (.sipush 180, 3) := by decide +kernel
theorem dX0_init_53 : decode cX0_init 53 = .ok (.newarray .int, 2) := by decide +kernel
theorem dX0_init_55 : decode cX0_init 55 = .ok (.putfield 27, 3) := by decide +kernel
theorem dX0_init_58 : decode cX0_init 58 = .ok (.aload_n 0, 1) := by decide +kernel
theorem dX0_init_59 : decode cX0_init 59 = .ok (.iconst 0, 1) := by decide +kernel
theorem dX0_init_60 : decode cX0_init 60 = .ok (.putfield 30, 3) := by decide +kernel
theorem dX0_init_63 : decode cX0_init 63 = .ok (.aload_n 0, 1) := by decide +kernel
theorem dX0_init_64 : decode cX0_init 64 = .ok (.iconst 0, 1) := by decide +kernel
theorem dX0_init_65 : decode cX0_init 65 = .ok (.putfield 34, 3) := by decide +kernel
theorem dX0_init_68 : decode cX0_init 68 = .ok (.return_, 1) := by decide +kernel
theorem dX0_open_0 : decode cX0_open 0 = .ok (.aload_n 0, 1) := by decide +kernel
theorem dX0_open_1 : decode cX0_open 1 = .ok (.getfield 30, 3) := by decide +kernel
theorem dX0_open_4 : decode cX0_open 4 = .ok (.sipush 180, 3) := by decide +kernel
theorem dX0_open_7 : decode cX0_open 7 = .ok (.if_icmp .ge 75, 3) := by decide +kernel
theorem dX0_open_10 : decode cX0_open 10 = .ok (.aload_n 0, 1) := by decide +kernel
theorem dX0_open_11 : decode cX0_open 11 = .ok (.getfield 9, 3) := by decide +kernel
theorem dX0_open_14 : decode cX0_open 14 = .ok (.aload_n 0, 1) := by decide +kernel
theorem dX0_open_15 : decode cX0_open 15 = .ok (.getfield 30, 3) := by decide +kernel
theorem dX0_open_18 : decode cX0_open 18 = .ok (.iload_n 1, 1) := by decide +kernel
theorem dX0_open_19 : decode cX0_open 19 = .ok (.iastore, 1) := by decide +kernel
theorem dX0_open_20 : decode cX0_open 20 = .ok (.aload_n 0, 1) := by decide +kernel
theorem dX0_open_21 : decode cX0_open 21 = .ok (.getfield 15, 3) := by decide +kernel
theorem dX0_open_24 : decode cX0_open 24 = .ok (.aload_n 0, 1) := by decide +kernel
theorem dX0_open_25 : decode cX0_open 25 = .ok (.getfield 30, 3) := by decide +kernel
theorem dX0_open_28 : decode cX0_open 28 = .ok (.iload_n 2, 1) := by decide +kernel
theorem dX0_open_29 : decode cX0_open 29 = .ok (.iastore, 1) := by decide +kernel
theorem dX0_open_30 : decode cX0_open 30 = .ok (.aload_n 0, 1) := by decide +kernel
theorem dX0_open_31 : decode cX0_open 31 = .ok (.getfield 18, 3) := by decide +kernel
theorem dX0_open_34 : decode cX0_open 34 = .ok (.aload_n 0, 1) := by decide +kernel
theorem dX0_open_35 : decode cX0_open 35 = .ok (.getfield 30, 3) := by decide +kernel
theorem dX0_open_38 : decode cX0_open 38 = .ok (.iload_n 3, 1) := by decide +kernel
theorem dX0_open_39 : decode cX0_open 39 = .ok (.iastore, 1) := by decide +kernel
theorem dX0_open_40 : decode cX0_open 40 = .ok (.aload_n 0, 1) := by decide +kernel
theorem dX0_open_41 : decode cX0_open 41 = .ok (.getfield 21, 3) := by decide +kernel
theorem dX0_open_44 : decode cX0_open 44 = .ok (.aload_n 0, 1) := by decide +kernel
theorem dX0_open_45 : decode cX0_open 45 = .ok (.getfield 30, 3) := by decide +kernel
theorem dX0_open_48 : decode cX0_open 48 = .ok (.iload 4, 2) := by decide +kernel
theorem dX0_open_50 : decode cX0_open 50 = .ok (.iastore, 1) := by decide +kernel
theorem dX0_open_51 : decode cX0_open 51 = .ok (.aload_n 0, 1) := by decide +kernel
theorem dX0_open_52 : decode cX0_open 52 = .ok (.getfield 24, 3) := by decide +kernel
theorem dX0_open_55 : decode cX0_open 55 = .ok (.aload_n 0, 1) := by decide +kernel
theorem dX0_open_56 : decode cX0_open 56 = .ok (.getfield 30, 3) := by decide +kernel
theorem dX0_open_59 : decode cX0_open 59 = .ok (.iload 5, 2) := by decide +kernel
theorem dX0_open_61 : decode cX0_open 61 = .ok (.iastore, 1) := by decide +kernel
theorem dX0_open_62 : decode cX0_open 62 = .ok (.aload_n 0, 1) := by decide +kernel
theorem dX0_open_63 : decode cX0_open 63 = .ok (.getfield 27, 3) := by decide +kernel
theorem dX0_open_66 : decode cX0_open 66 = .ok (.aload_n 0, 1) := by decide +kernel
theorem dX0_open_67 : decode cX0_open 67 = .ok (.getfield 30, 3) := by decide +kernel
theorem dX0_open_70 : decode cX0_open 70 = .ok (.iconst (-1), 1) := by decide +kernel
theorem dX0_open_71 : decode cX0_open 71 = .ok (.iastore, 1) := by decide +kernel
theorem dX0_open_72 : decode cX0_open 72 = .ok (.aload_n 0, 1) := by decide +kernel
theorem dX0_open_73 : decode cX0_open 73 = .ok (.dup, 1) := by decide +kernel
theorem dX0_open_74 : decode cX0_open 74 = .ok (.getfield 30, 3) := by decide +kernel
theorem dX0_open_77 : decode cX0_open 77 = .ok (.iconst 1, 1) := by decide +kernel
theorem dX0_open_78 : decode cX0_open 78 = .ok (.iadd, 1) := by decide +kernel
theorem dX0_open_79 : decode cX0_open 79 = .ok (.putfield 30, 3) := by decide +kernel
theorem dX0_open_82 : decode cX0_open 82 = .ok (.return_, 1) := by decide +kernel
theorem dX0_clear_0 : decode cX0_clear 0 = .ok (.iconst 0, 1) := by decide +kernel
theorem dX0_clear_1 : decode cX0_clear 1 = .ok (.istore 5, 2) := by decide +kernel
theorem dX0_clear_3 : decode cX0_clear 3 = .ok (.iconst (-1), 1) := by decide +kernel
theorem dX0_clear_4 : decode cX0_clear 4 = .ok (.istore 6, 2) := by decide +kernel
theorem dX0_clear_6 : decode cX0_clear 6 = .ok (.iconst (-1), 1) := by decide +kernel
theorem dX0_clear_7 : decode cX0_clear 7 = .ok (.istore 7, 2) := by decide +kernel
theorem dX0_clear_9 : decode cX0_clear 9 = .ok (.iconst 0, 1) := by decide +kernel
theorem dX0_clear_10 : decode cX0_clear 10 = .ok (.istore 8, 2) := by decide +kernel
theorem dX0_clear_12 : decode cX0_clear 12 = .ok (.iload 8, 2) := by decide +kernel
theorem dX0_clear_14 : decode cX0_clear 14 = .ok (.aload_n 0, 1) := by decide +kernel
theorem dX0_clear_15 : decode cX0_clear 15 = .ok (.getfield 30, 3) := by decide +kernel
theorem dX0_clear_18 : decode cX0_clear 18 = .ok (.if_icmp .ge 94, 3) := by decide +kernel
theorem dX0_clear_21 : decode cX0_clear 21 = .ok (.aload_n 0, 1) := by decide +kernel
theorem dX0_clear_22 : decode cX0_clear 22 = .ok (.getfield 9, 3) := by decide +kernel
theorem dX0_clear_25 : decode cX0_clear 25 = .ok (.iload 8, 2) := by decide +kernel
theorem dX0_clear_27 : decode cX0_clear 27 = .ok (.iaload, 1) := by decide +kernel
theorem dX0_clear_28 : decode cX0_clear 28 = .ok (.iload_n 1, 1) := by decide +kernel
theorem dX0_clear_29 : decode cX0_clear 29 = .ok (.if_icmp .ne 77, 3) := by decide +kernel
theorem dX0_clear_32 : decode cX0_clear 32 = .ok (.aload_n 0, 1) := by decide +kernel
theorem dX0_clear_33 : decode cX0_clear 33 = .ok (.getfield 27, 3) := by decide +kernel
theorem dX0_clear_36 : decode cX0_clear 36 = .ok (.iload 8, 2) := by decide +kernel
theorem dX0_clear_38 : decode cX0_clear 38 = .ok (.iaload, 1) := by decide +kernel
theorem dX0_clear_39 : decode cX0_clear 39 = .ok (.iconst (-1), 1) := by decide +kernel
theorem dX0_clear_40 : decode cX0_clear 40 = .ok (.if_icmp .ne 66, 3) := by decide +kernel
theorem dX0_clear_43 : decode cX0_clear 43 = .ok (.aload_n 0, 1) := by decide +kernel
theorem dX0_clear_44 : decode cX0_clear 44 = .ok (.iload 8, 2) := by decide +kernel
theorem dX0_clear_46 : decode cX0_clear 46 = .ok (.iload_n 2, 1) := by decide +kernel
theorem dX0_clear_47 : decode cX0_clear 47 = .ok (.iload_n 3, 1) := by decide +kernel
theorem dX0_clear_48 : decode cX0_clear 48 = .ok (.invokevirtual 37, 3) := by decide +kernel
theorem dX0_clear_51 : decode cX0_clear 51 = .ok (.ifCond .le 55, 3) := by decide +kernel
theorem dX0_clear_54 : decode cX0_clear 54 = .ok (.aload_n 0, 1) := by decide +kernel
theorem dX0_clear_55 : decode cX0_clear 55 = .ok (.getfield 27, 3) := by decide +kernel
theorem dX0_clear_58 : decode cX0_clear 58 = .ok (.iload 8, 2) := by decide +kernel
theorem dX0_clear_60 : decode cX0_clear 60 = .ok (.iload 4, 2) := by decide +kernel
theorem dX0_clear_62 : decode cX0_clear 62 = .ok (.iastore, 1) := by decide +kernel
theorem dX0_clear_63 : decode cX0_clear 63 = .ok (.iinc 5 1, 3) := by decide +kernel
theorem dX0_clear_66 : decode cX0_clear 66 = .ok (.aload_n 0, 1) := by decide +kernel
theorem dX0_clear_67 : decode cX0_clear 67 = .ok (.getfield 18, 3) := by decide +kernel
theorem dX0_clear_70 : decode cX0_clear 70 = .ok (.iload 8, 2) := by decide +kernel
theorem dX0_clear_72 : decode cX0_clear 72 = .ok (.iaload, 1) := by decide +kernel
theorem dX0_clear_73 : decode cX0_clear 73 = .ok (.iload_n 2, 1) := by decide +kernel
theorem dX0_clear_74 : decode cX0_clear 74 = .ok (.if_icmp .ge 8, 3) := by decide +kernel
theorem dX0_clear_77 : decode cX0_clear 77 = .ok (.iload 8, 2) := by decide +kernel
theorem dX0_clear_79 : decode cX0_clear 79 = .ok (.goto 5, 3) := by decide +kernel
theorem dX0_clear_82 : decode cX0_clear 82 = .ok (.iload 6, 2) := by decide +kernel
theorem dX0_clear_84 : decode cX0_clear 84 = .ok (.istore 6, 2) := by decide +kernel
theorem dX0_clear_86 : decode cX0_clear 86 = .ok (.aload_n 0, 1) := by decide +kernel
theorem dX0_clear_87 : decode cX0_clear 87 = .ok (.getfield 21, 3) := by decide +kernel
theorem dX0_clear_90 : decode cX0_clear 90 = .ok (.iload 8, 2) := by decide +kernel
theorem dX0_clear_92 : decode cX0_clear 92 = .ok (.iaload, 1) := by decide +kernel
theorem dX0_clear_93 : decode cX0_clear 93 = .ok (.iload_n 3, 1) := by decide +kernel
theorem dX0_clear_94 : decode cX0_clear 94 = .ok (.if_icmp .le 8, 3) := by decide +kernel
theorem dX0_clear_97 : decode cX0_clear 97 = .ok (.iload 8, 2) := by decide +kernel
theorem dX0_clear_99 : decode cX0_clear 99 = .ok (.goto 5, 3) := by decide +kernel
theorem dX0_clear_102 : decode cX0_clear 102 = .ok (.iload 7, 2) := by decide +kernel
theorem dX0_clear_104 : decode cX0_clear 104 = .ok (.istore 7, 2) := by decide +kernel
theorem dX0_clear_106 : decode cX0_clear 106 = .ok (.iinc 8 1, 3) := by decide +kernel
theorem dX0_clear_109 : decode cX0_clear 109 = .ok (.goto (-97), 3) := by decide +kernel
theorem dX0_clear_112 : decode cX0_clear 112 = .ok (.iload 6, 2) := by decide +kernel
theorem dX0_clear_114 : decode cX0_clear 114 = .ok (.iconst (-1), 1) := by decide +kernel
theorem dX0_clear_115 : decode cX0_clear 115 = .ok (.if_icmp .eq 23, 3) := by decide +kernel
theorem dX0_clear_118 : decode cX0_clear 118 = .ok (.aload_n 0, 1) := by decide +kernel
theorem dX0_clear_119 : decode cX0_clear 119 = .ok (.iload_n 1, 1) := by decide +kernel
theorem dX0_clear_120 : decode cX0_clear 120 = .ok (.aload_n 0, 1) := by decide +kernel
theorem dX0_clear_121 : decode cX0_clear 121 = .ok (.iload 6, 2) := by decide +kernel
theorem dX0_clear_123 : decode cX0_clear 123 = .ok (.invokevirtual 41, 3) := by decide +kernel
theorem dX0_clear_126 : decode cX0_clear 126 = .ok (.aload_n 0, 1) := by decide +kernel
theorem dX0_clear_127 : decode cX0_clear 127 = .ok (.iload 6, 2) := by decide +kernel
theorem dX0_clear_129 : decode cX0_clear 129 = .ok (.invokevirtual 45, 3) := by decide +kernel
theorem dX0_clear_132 : decode cX0_clear 132 = .ok (.iload_n 2, 1) := by decide +kernel
theorem dX0_clear_133 : decode cX0_clear 133 = .ok (.iload 4, 2) := by decide +kernel
theorem dX0_clear_135 : decode cX0_clear 135 = .ok (.invokevirtual 48, 3) := by decide +kernel
theorem dX0_clear_138 : decode cX0_clear 138 = .ok (.iload 7, 2) := by decide +kernel
theorem dX0_clear_140 : decode cX0_clear 140 = .ok (.iconst (-1), 1) := by decide +kernel
theorem dX0_clear_141 : decode cX0_clear 141 = .ok (.if_icmp .eq 23, 3) := by decide +kernel
theorem dX0_clear_144 : decode cX0_clear 144 = .ok (.aload_n 0, 1) := by decide +kernel
theorem dX0_clear_145 : decode cX0_clear 145 = .ok (.iload_n 1, 1) := by decide +kernel
theorem dX0_clear_146 : decode cX0_clear 146 = .ok (.aload_n 0, 1) := by decide +kernel
theorem dX0_clear_147 : decode cX0_clear 147 = .ok (.iload 7, 2) := by decide +kernel
theorem dX0_clear_149 : decode cX0_clear 149 = .ok (.invokevirtual 41, 3) := by decide +kernel
theorem dX0_clear_152 : decode cX0_clear 152 = .ok (.iload_n 3, 1) := by decide +kernel
theorem dX0_clear_153 : decode cX0_clear 153 = .ok (.aload_n 0, 1) := by decide +kernel
theorem dX0_clear_154 : decode cX0_clear 154 = .ok (.iload 7, 2) := by decide +kernel
theorem dX0_clear_156 : decode cX0_clear 156 = .ok (.invokevirtual 52, 3) := by decide +kernel
theorem dX0_clear_159 : decode cX0_clear 159 = .ok (.iload 4, 2) := by decide +kernel
theorem dX0_clear_161 : decode cX0_clear 161 = .ok (.invokevirtual 48, 3) := by decide +kernel
theorem dX0_clear_164 : decode cX0_clear 164 = .ok (.iload 5, 2) := by decide +kernel
theorem dX0_clear_166 : decode cX0_clear 166 = .ok (.ireturn, 1) := by decide +kernel
theorem dX0_find_0 : decode cX0_find 0 = .ok (.iconst 0, 1) := by decide +kernel
theorem dX0_find_1 : decode cX0_find 1 = .ok (.istore 4, 2) := by decide +kernel
theorem dX0_find_3 : decode cX0_find 3 = .ok (.iload 4, 2) := by decide +kernel
theorem dX0_find_5 : decode cX0_find 5 = .ok (.aload_n 0, 1) := by decide +kernel
theorem dX0_find_6 : decode cX0_find 6 = .ok (.getfield 30, 3) := by decide +kernel
theorem dX0_find_9 : decode cX0_find 9 = .ok (.if_icmp .ge 46, 3) := by decide +kernel
theorem dX0_find_12 : decode cX0_find 12 = .ok (.aload_n 0, 1) := by decide +kernel
theorem dX0_find_13 : decode cX0_find 13 = .ok (.getfield 9, 3) := by decide +kernel
theorem dX0_find_16 : decode cX0_find 16 = .ok (.iload 4, 2) := by decide +kernel
theorem dX0_find_18 : decode cX0_find 18 = .ok (.iaload, 1) := by decide +kernel
theorem dX0_find_19 : decode cX0_find 19 = .ok (.iload_n 1, 1) := by decide +kernel
theorem dX0_find_20 : decode cX0_find 20 = .ok (.if_icmp .ne 29, 3) := by decide +kernel
theorem dX0_find_23 : decode cX0_find 23 = .ok (.aload_n 0, 1) := by decide +kernel
theorem dX0_find_24 : decode cX0_find 24 = .ok (.iload 4, 2) := by decide +kernel
theorem dX0_find_26 : decode cX0_find 26 = .ok (.iload_n 3, 1) := by decide +kernel
theorem dX0_find_27 : decode cX0_find 27 = .ok (.invokevirtual 55, 3) := by decide +kernel
theorem dX0_find_30 : decode cX0_find 30 = .ok (.ifCond .eq 19, 3) := by decide +kernel
theorem dX0_find_33 : decode cX0_find 33 = .ok (.aload_n 0, 1) := by decide +kernel
theorem dX0_find_34 : decode cX0_find 34 = .ok (.iload 4, 2) := by decide +kernel
theorem dX0_find_36 : decode cX0_find 36 = .ok (.iload_n 2, 1) := by decide +kernel
theorem dX0_find_37 : decode cX0_find 37 = .ok (.iload_n 2, 1) := by decide +kernel
theorem dX0_find_38 : decode cX0_find 38 = .ok (.iconst 1, 1) := by decide +kernel
theorem dX0_find_39 : decode cX0_find 39 = .ok (.iadd, 1) := by decide +kernel
theorem dX0_find_40 : decode cX0_find 40 = .ok (.invokevirtual 37, 3) := by decide +kernel
theorem dX0_find_43 : decode cX0_find 43 = .ok (.ifCond .le 6, 3) := by decide +kernel
theorem dX0_find_46 : decode cX0_find 46 = .ok (.iload 4, 2) := by decide +kernel
theorem dX0_find_48 : decode cX0_find 48 = .ok (.ireturn, 1) := by decide +kernel
theorem dX0_find_49 : decode cX0_find 49 = .ok (.iinc 4 1, 3) := by decide +kernel
theorem dX0_find_52 : decode cX0_find 52 = .ok (.goto (-49), 3) := by decide +kernel
theorem dX0_find_55 : decode cX0_find 55 = .ok (.iconst (-1), 1) := by decide +kernel
theorem dX0_find_56 : decode cX0_find 56 = .ok (.ireturn, 1) := by decide +kernel
theorem dX0_countDays_0 : decode cX0_countDays 0 = .ok (.iconst 0, 1) := by decide +kernel
theorem dX0_countDays_1 : decode cX0_countDays 1 = .ok (.istore 5, 2) := by decide +kernel
theorem dX0_countDays_3 : decode cX0_countDays 3 = .ok (.iconst 0, 1) := by decide +kernel
theorem dX0_countDays_4 : decode cX0_countDays 4 = .ok (.istore 6, 2) := by decide +kernel
theorem dX0_countDays_6 : decode cX0_countDays 6 = .ok (.iload 6, 2) := by decide +kernel
theorem dX0_countDays_8 : decode cX0_countDays 8 = .ok (.aload_n 0, 1) := by decide +kernel
theorem dX0_countDays_9 : decode cX0_countDays 9 = .ok (.getfield 30, 3) := by decide +kernel
theorem dX0_countDays_12 : decode cX0_countDays 12 = .ok (.if_icmp .ge 44, 3) := by decide +kernel
theorem dX0_countDays_15 : decode cX0_countDays 15 = .ok (.aload_n 0, 1) := by decide +kernel
theorem dX0_countDays_16 : decode cX0_countDays 16 = .ok (.getfield 9, 3) := by decide +kernel
theorem dX0_countDays_19 : decode cX0_countDays 19 = .ok (.iload 6, 2) := by decide +kernel
theorem dX0_countDays_21 : decode cX0_countDays 21 = .ok (.iaload, 1) := by decide +kernel
theorem dX0_countDays_22 : decode cX0_countDays 22 = .ok (.iload_n 1, 1) := by decide +kernel
theorem dX0_countDays_23 : decode cX0_countDays 23 = .ok (.if_icmp .ne 27, 3) := by decide +kernel
theorem dX0_countDays_26 : decode cX0_countDays 26 = .ok (.aload_n 0, 1) := by decide +kernel
theorem dX0_countDays_27 : decode cX0_countDays 27 = .ok (.iload 6, 2) := by decide +kernel
theorem dX0_countDays_29 : decode cX0_countDays 29 = .ok (.iload 4, 2) := by decide +kernel
theorem dX0_countDays_31 : decode cX0_countDays 31 = .ok (.invokevirtual 55, 3) := by decide +kernel
theorem dX0_countDays_34 : decode cX0_countDays 34 = .ok (.ifCond .eq 16, 3) := by decide +kernel
theorem dX0_countDays_37 : decode cX0_countDays 37 = .ok (.iload 5, 2) := by decide +kernel
theorem dX0_countDays_39 : decode cX0_countDays 39 = .ok (.aload_n 0, 1) := by decide +kernel
theorem dX0_countDays_40 : decode cX0_countDays 40 = .ok (.iload 6, 2) := by decide +kernel
theorem dX0_countDays_42 : decode cX0_countDays 42 = .ok (.iload_n 2, 1) := by decide +kernel
theorem dX0_countDays_43 : decode cX0_countDays 43 = .ok (.iload_n 3, 1) := by decide +kernel
theorem dX0_countDays_44 : decode cX0_countDays 44 = .ok (.invokevirtual 37, 3) := by decide +kernel
theorem dX0_countDays_47 : decode cX0_countDays 47 = .ok (.iadd, 1) := by decide +kernel
theorem dX0_countDays_48 : decode cX0_countDays 48 = .ok (.istore 5, 2) := by decide +kernel
theorem dX0_countDays_50 : decode cX0_countDays 50 = .ok (.iinc 6 1, 3) := by decide +kernel
theorem dX0_countDays_53 : decode cX0_countDays 53 = .ok (.goto (-47), 3) := by decide +kernel
theorem dX0_countDays_56 : decode cX0_countDays 56 = .ok (.iload 5, 2) := by decide +kernel
theorem dX0_countDays_58 : decode cX0_countDays 58 = .ok (.ireturn, 1) := by decide +kernel
theorem dX0_readInto_0 : decode cX0_readInto 0 = .ok (.aload_n 1, 1) := by decide +kernel
theorem dX0_readInto_1 : decode cX0_readInto 1 = .ok (.invokevirtual 59, 3) := by decide +kernel
theorem dX0_readInto_4 : decode cX0_readInto 4 = .ok (.iconst 0, 1) := by decide +kernel
theorem dX0_readInto_5 : decode cX0_readInto 5 = .ok (.istore 4, 2) := by decide +kernel
theorem dX0_readInto_7 : decode cX0_readInto 7 = .ok (.iload 4, 2) := by decide +kernel
theorem dX0_readInto_9 : decode cX0_readInto 9 = .ok (.aload_n 0, 1) := by decide +kernel
theorem dX0_readInto_10 : decode cX0_readInto 10 = .ok (.getfield 30, 3) := by decide +kernel
theorem dX0_readInto_13 : decode cX0_readInto 13 = .ok (.if_icmp .ge 56, 3) := by decide +kernel
theorem dX0_readInto_16 : decode cX0_readInto 16 = .ok (.aload_n 0, 1) := by decide +kernel
theorem dX0_readInto_17 : decode cX0_readInto 17 = .ok (.getfield 9, 3) := by decide +kernel
theorem dX0_readInto_20 : decode cX0_readInto 20 = .ok (.iload 4, 2) := by decide +kernel
theorem dX0_readInto_22 : decode cX0_readInto 22 = .ok (.iaload, 1) := by decide +kernel
theorem dX0_readInto_23 : decode cX0_readInto 23 = .ok (.iload_n 2, 1) := by decide +kernel
theorem dX0_readInto_24 : decode cX0_readInto 24 = .ok (.if_icmp .ne 39, 3) := by decide +kernel
theorem dX0_readInto_27 : decode cX0_readInto 27 = .ok (.aload_n 0, 1) := by decide +kernel
theorem dX0_readInto_28 : decode cX0_readInto 28 = .ok (.iload 4, 2) := by decide +kernel
theorem dX0_readInto_30 : decode cX0_readInto 30 = .ok (.iload_n 3, 1) := by decide +kernel
theorem dX0_readInto_31 : decode cX0_readInto 31 = .ok (.invokevirtual 55, 3) := by decide +kernel
theorem dX0_readInto_34 : decode cX0_readInto 34 = .ok (.ifCond .eq 29, 3) := by decide +kernel
theorem dX0_readInto_37 : decode cX0_readInto 37 = .ok (.aload_n 1, 1) := by decide +kernel
theorem dX0_readInto_38 : decode cX0_readInto 38 = .ok (.aload_n 0, 1) := by decide +kernel
theorem dX0_readInto_39 : decode cX0_readInto 39 = .ok (.getfield 18, 3) := by decide +kernel
theorem dX0_readInto_42 : decode cX0_readInto 42 = .ok (.iload 4, 2) := by decide +kernel
theorem dX0_readInto_44 : decode cX0_readInto 44 = .ok (.iaload, 1) := by decide +kernel
theorem dX0_readInto_45 : decode cX0_readInto 45 = .ok (.aload_n 0, 1) := by decide +kernel
theorem dX0_readInto_46 : decode cX0_readInto 46 = .ok (.getfield 21, 3) := by decide +kernel
theorem dX0_readInto_49 : decode cX0_readInto 49 = .ok (.iload 4, 2) := by decide +kernel
theorem dX0_readInto_51 : decode cX0_readInto 51 = .ok (.iaload, 1) := by decide +kernel
theorem dX0_readInto_52 : decode cX0_readInto 52 = .ok (.iconst 1, 1) := by decide +kernel
theorem dX0_readInto_53 : decode cX0_readInto 53 = .ok (.aload_n 0, 1) := by decide +kernel
theorem dX0_readInto_54 : decode cX0_readInto 54 = .ok (.getfield 15, 3) := by decide +kernel
theorem dX0_readInto_57 : decode cX0_readInto 57 = .ok (.iload 4, 2) := by decide +kernel
theorem dX0_readInto_59 : decode cX0_readInto 59 = .ok (.iaload, 1) := by decide +kernel
theorem dX0_readInto_60 : decode cX0_readInto 60 = .ok (.invokevirtual 64, 3) := by decide +kernel
theorem dX0_readInto_63 : decode cX0_readInto 63 = .ok (.iinc 4 1, 3) := by decide +kernel
theorem dX0_readInto_66 : decode cX0_readInto 66 = .ok (.goto (-59), 3) := by decide +kernel
theorem dX0_readInto_69 : decode cX0_readInto 69 = .ok (.return_, 1) := by decide +kernel
theorem dX0_countKept_0 : decode cX0_countKept 0 = .ok (.iconst 0, 1) := by decide +kernel
theorem dX0_countKept_1 : decode cX0_countKept 1 = .ok (.istore_n 1, 1) := by decide +kernel
theorem dX0_countKept_2 : decode cX0_countKept 2 = .ok (.iconst 0, 1) := by decide +kernel
theorem dX0_countKept_3 : decode cX0_countKept 3 = .ok (.istore_n 2, 1) := by decide +kernel
theorem dX0_countKept_4 : decode cX0_countKept 4 = .ok (.iload_n 2, 1) := by decide +kernel
theorem dX0_countKept_5 : decode cX0_countKept 5 = .ok (.aload_n 0, 1) := by decide +kernel
theorem dX0_countKept_6 : decode cX0_countKept 6 = .ok (.getfield 30, 3) := by decide +kernel
theorem dX0_countKept_9 : decode cX0_countKept 9 = .ok (.if_icmp .ge 25, 3) := by decide +kernel
theorem dX0_countKept_12 : decode cX0_countKept 12 = .ok (.iload_n 1, 1) := by decide +kernel
theorem dX0_countKept_13 : decode cX0_countKept 13 = .ok (.aload_n 0, 1) := by decide +kernel
theorem dX0_countKept_14 : decode cX0_countKept 14 = .ok (.iload_n 2, 1) := by decide +kernel
theorem dX0_countKept_15 : decode cX0_countKept 15 = .ok (.invokevirtual 68, 3) := by decide +kernel
theorem dX0_countKept_18 : decode cX0_countKept 18 = .ok (.ifCond .eq 7, 3) := by decide +kernel
theorem dX0_countKept_21 : decode cX0_countKept 21 = .ok (.iconst 1, 1) := by decide +kernel
theorem dX0_countKept_22 : decode cX0_countKept 22 = .ok (.goto 4, 3) := by decide +kernel
theorem dX0_countKept_25 : decode cX0_countKept 25 = .ok (.iconst 0, 1) := by decide +kernel
theorem dX0_countKept_26 : decode cX0_countKept 26 = .ok (.iadd, 1) := by decide +kernel
theorem dX0_countKept_27 : decode cX0_countKept 27 = .ok (.istore_n 1, 1) := by decide +kernel
theorem dX0_countKept_28 : decode cX0_countKept 28 = .ok (.iinc 2 1, 3) := by decide +kernel
theorem dX0_countKept_31 : decode cX0_countKept 31 = .ok (.goto (-27), 3) := by decide +kernel
theorem dX0_countKept_34 : decode cX0_countKept 34 = .ok (.iload_n 1, 1) := by decide +kernel
theorem dX0_countKept_35 : decode cX0_countKept 35 = .ok (.ireturn, 1) := by decide +kernel
theorem dX0_countOpen_0 : decode cX0_countOpen 0 = .ok (.iconst 0, 1) := by decide +kernel
theorem dX0_countOpen_1 : decode cX0_countOpen 1 = .ok (.istore_n 1, 1) := by decide +kernel
theorem dX0_countOpen_2 : decode cX0_countOpen 2 = .ok (.iconst 0, 1) := by decide +kernel
theorem dX0_countOpen_3 : decode cX0_countOpen 3 = .ok (.istore_n 2, 1) := by decide +kernel
theorem dX0_countOpen_4 : decode cX0_countOpen 4 = .ok (.iload_n 2, 1) := by decide +kernel
theorem dX0_countOpen_5 : decode cX0_countOpen 5 = .ok (.aload_n 0, 1) := by decide +kernel
theorem dX0_countOpen_6 : decode cX0_countOpen 6 = .ok (.getfield 30, 3) := by decide +kernel
theorem dX0_countOpen_9 : decode cX0_countOpen 9 = .ok (.if_icmp .ge 27, 3) := by decide +kernel
theorem dX0_countOpen_12 : decode cX0_countOpen 12 = .ok (.iload_n 1, 1) := by decide +kernel
theorem dX0_countOpen_13 : decode cX0_countOpen 13 = .ok (.aload_n 0, 1) := by decide +kernel
theorem dX0_countOpen_14 : decode cX0_countOpen 14 = .ok (.getfield 27, 3) := by decide +kernel
theorem dX0_countOpen_17 : decode cX0_countOpen 17 = .ok (.iload_n 2, 1) := by decide +kernel
theorem dX0_countOpen_18 : decode cX0_countOpen 18 = .ok (.iaload, 1) := by decide +kernel
theorem dX0_countOpen_19 : decode cX0_countOpen 19 = .ok (.iconst (-1), 1) := by decide +kernel
theorem dX0_countOpen_20 : decode cX0_countOpen 20 = .ok (.if_icmp .ne 7, 3) := by decide +kernel
theorem dX0_countOpen_23 : decode cX0_countOpen 23 = .ok (.iconst 1, 1) := by decide +kernel
theorem dX0_countOpen_24 : decode cX0_countOpen 24 = .ok (.goto 4, 3) := by decide +kernel
theorem dX0_countOpen_27 : decode cX0_countOpen 27 = .ok (.iconst 0, 1) := by decide +kernel
theorem dX0_countOpen_28 : decode cX0_countOpen 28 = .ok (.iadd, 1) := by decide +kernel
theorem dX0_countOpen_29 : decode cX0_countOpen 29 = .ok (.istore_n 1, 1) := by decide +kernel
theorem dX0_countOpen_30 : decode cX0_countOpen 30 = .ok (.iinc 2 1, 3) := by decide +kernel
theorem dX0_countOpen_33 : decode cX0_countOpen 33 = .ok (.goto (-29), 3) := by decide +kernel
theorem dX0_countOpen_36 : decode cX0_countOpen 36 = .ok (.iload_n 1, 1) := by decide +kernel
theorem dX0_countOpen_37 : decode cX0_countOpen 37 = .ok (.ireturn, 1) := by decide +kernel
theorem dX0_remove_0 : decode cX0_remove 0 = .ok (.aload_n 0, 1) := by decide +kernel
theorem dX0_remove_1 : decode cX0_remove 1 = .ok (.invokevirtual 72, 3) := by decide +kernel
theorem dX0_remove_4 : decode cX0_remove 4 = .ok (.istore_n 2, 1) := by decide +kernel
theorem dX0_remove_5 : decode cX0_remove 5 = .ok (.aload_n 0, 1) := by decide +kernel
theorem dX0_remove_6 : decode cX0_remove 6 = .ok (.iload_n 1, 1) := by decide +kernel
theorem dX0_remove_7 : decode cX0_remove 7 = .ok (.putfield 34, 3) := by decide +kernel
theorem dX0_remove_10 : decode cX0_remove 10 = .ok (.iload_n 2, 1) := by decide +kernel
theorem dX0_remove_11 : decode cX0_remove 11 = .ok (.aload_n 0, 1) := by decide +kernel
theorem dX0_remove_12 : decode cX0_remove 12 = .ok (.invokevirtual 72, 3) := by decide +kernel
theorem dX0_remove_15 : decode cX0_remove 15 = .ok (.isub, 1) := by decide +kernel
theorem dX0_remove_16 : decode cX0_remove 16 = .ok (.ireturn, 1) := by decide +kernel
theorem dX0_oldestTick_0 : decode cX0_oldestTick 0 = .ok (.aload_n 0, 1) := by decide +kernel
theorem dX0_oldestTick_1 : decode cX0_oldestTick 1 = .ok (.getfield 34, 3) := by decide +kernel
theorem dX0_oldestTick_4 : decode cX0_oldestTick 4 = .ok (.ireturn, 1) := by decide +kernel
theorem dX0_isKept_0 : decode cX0_isKept 0 = .ok (.iload_n 1, 1) := by decide +kernel
theorem dX0_isKept_1 : decode cX0_isKept 1 = .ok (.ifCond .lt 38, 3) := by decide +kernel
theorem dX0_isKept_4 : decode cX0_isKept 4 = .ok (.iload_n 1, 1) := by decide +kernel
theorem dX0_isKept_5 : decode cX0_isKept 5 = .ok (.aload_n 0, 1) := by decide +kernel
theorem dX0_isKept_6 : decode cX0_isKept 6 = .ok (.getfield 30, 3) := by decide +kernel
theorem dX0_isKept_9 : decode cX0_isKept 9 = .ok (.if_icmp .ge 30, 3) := by decide +kernel
theorem dX0_isKept_12 : decode cX0_isKept 12 = .ok (.aload_n 0, 1) := by decide +kernel
theorem dX0_isKept_13 : decode cX0_isKept 13 = .ok (.getfield 27, 3) := by decide +kernel
theorem dX0_isKept_16 : decode cX0_isKept 16 = .ok (.iload_n 1, 1) := by decide +kernel
theorem dX0_isKept_17 : decode cX0_isKept 17 = .ok (.iaload, 1) := by decide +kernel
theorem dX0_isKept_18 : decode cX0_isKept 18 = .ok (.iconst (-1), 1) := by decide +kernel
theorem dX0_isKept_19 : decode cX0_isKept 19 = .ok (.if_icmp .eq 16, 3) := by decide +kernel
theorem dX0_isKept_22 : decode cX0_isKept 22 = .ok (.aload_n 0, 1) := by decide +kernel
theorem dX0_isKept_23 : decode cX0_isKept 23 = .ok (.getfield 27, 3) := by decide +kernel
theorem dX0_isKept_26 : decode cX0_isKept 26 = .ok (.iload_n 1, 1) := by decide +kernel
theorem dX0_isKept_27 : decode cX0_isKept 27 = .ok (.iaload, 1) := by decide +kernel
theorem dX0_isKept_28 : decode cX0_isKept 28 = .ok (.aload_n 0, 1) := by decide +kernel
theorem dX0_isKept_29 : decode cX0_isKept 29 = .ok (.getfield 34, 3) := by decide +kernel
theorem dX0_isKept_32 : decode cX0_isKept 32 = .ok (.if_icmp .le 7, 3) := by decide +kernel
theorem dX0_isKept_35 : decode cX0_isKept 35 = .ok (.iconst 1, 1) := by decide +kernel
theorem dX0_isKept_36 : decode cX0_isKept 36 = .ok (.goto 4, 3) := by decide +kernel
theorem dX0_isKept_39 : decode cX0_isKept 39 = .ok (.iconst 0, 1) := by decide +kernel
theorem dX0_isKept_40 : decode cX0_isKept 40 = .ok (.ireturn, 1) := by decide +kernel
theorem dX0_value_0 : decode cX0_value 0 = .ok (.aload_n 0, 1) := by decide +kernel
theorem dX0_value_1 : decode cX0_value 1 = .ok (.getfield 15, 3) := by decide +kernel
theorem dX0_value_4 : decode cX0_value 4 = .ok (.iload_n 1, 1) := by decide +kernel
theorem dX0_value_5 : decode cX0_value 5 = .ok (.invokestatic 76, 3) := by decide +kernel
theorem dX0_value_8 : decode cX0_value 8 = .ok (.ireturn, 1) := by decide +kernel
theorem dX0_firstDay_0 : decode cX0_firstDay 0 = .ok (.aload_n 0, 1) := by decide +kernel
theorem dX0_firstDay_1 : decode cX0_firstDay 1 = .ok (.getfield 18, 3) := by decide +kernel
theorem dX0_firstDay_4 : decode cX0_firstDay 4 = .ok (.iload_n 1, 1) := by decide +kernel
theorem dX0_firstDay_5 : decode cX0_firstDay 5 = .ok (.invokestatic 76, 3) := by decide +kernel
theorem dX0_firstDay_8 : decode cX0_firstDay 8 = .ok (.ireturn, 1) := by decide +kernel
theorem dX0_dayAfter_0 : decode cX0_dayAfter 0 = .ok (.aload_n 0, 1) := by decide +kernel
theorem dX0_dayAfter_1 : decode cX0_dayAfter 1 = .ok (.getfield 21, 3) := by decide +kernel
theorem dX0_dayAfter_4 : decode cX0_dayAfter 4 = .ok (.iload_n 1, 1) := by decide +kernel
theorem dX0_dayAfter_5 : decode cX0_dayAfter 5 = .ok (.invokestatic 76, 3) := by decide +kernel
theorem dX0_dayAfter_8 : decode cX0_dayAfter 8 = .ok (.ireturn, 1) := by decide +kernel
theorem dX0_opening_0 : decode cX0_opening 0 = .ok (.aload_n 0, 1) := by decide +kernel
theorem dX0_opening_1 : decode cX0_opening 1 = .ok (.getfield 24, 3) := by decide +kernel
theorem dX0_opening_4 : decode cX0_opening 4 = .ok (.iload_n 1, 1) := by decide +kernel
theorem dX0_opening_5 : decode cX0_opening 5 = .ok (.invokestatic 76, 3) := by decide +kernel
theorem dX0_opening_8 : decode cX0_opening 8 = .ok (.ireturn, 1) := by decide +kernel
theorem dX0_closing_0 : decode cX0_closing 0 = .ok (.aload_n 0, 1) := by decide +kernel
theorem dX0_closing_1 : decode cX0_closing 1 = .ok (.getfield 27, 3) := by decide +kernel
theorem dX0_closing_4 : decode cX0_closing 4 = .ok (.iload_n 1, 1) := by decide +kernel
theorem dX0_closing_5 : decode cX0_closing 5 = .ok (.invokestatic 76, 3) := by decide +kernel
theorem dX0_closing_8 : decode cX0_closing 8 = .ok (.ireturn, 1) := by decide +kernel
theorem dX0_isLive_0 : decode cX0_isLive 0 = .ok (.aload_n 0, 1) := by decide +kernel
theorem dX0_isLive_1 : decode cX0_isLive 1 = .ok (.getfield 24, 3) := by decide +kernel
theorem dX0_isLive_4 : decode cX0_isLive 4 = .ok (.iload_n 1, 1) := by decide +kernel
theorem dX0_isLive_5 : decode cX0_isLive 5 = .ok (.invokestatic 76, 3) := by decide +kernel
theorem dX0_isLive_8 : decode cX0_isLive 8 = .ok (.iload_n 2, 1) := by decide +kernel
theorem dX0_isLive_9 : decode cX0_isLive 9 = .ok (.if_icmp .gt 31, 3) := by decide +kernel
theorem dX0_isLive_12 : decode cX0_isLive 12 = .ok (.aload_n 0, 1) := by decide +kernel
theorem dX0_isLive_13 : decode cX0_isLive 13 = .ok (.getfield 27, 3) := by decide +kernel
theorem dX0_isLive_16 : decode cX0_isLive 16 = .ok (.iload_n 1, 1) := by decide +kernel
theorem dX0_isLive_17 : decode cX0_isLive 17 = .ok (.invokestatic 76, 3) := by decide +kernel
theorem dX0_isLive_20 : decode cX0_isLive 20 = .ok (.iconst (-1), 1) := by decide +kernel
theorem dX0_isLive_21 : decode cX0_isLive 21 = .ok (.if_icmp .eq 15, 3) := by decide +kernel
theorem dX0_isLive_24 : decode cX0_isLive 24 = .ok (.aload_n 0, 1) := by decide +kernel
theorem dX0_isLive_25 : decode cX0_isLive 25 = .ok (.getfield 27, 3) := by decide +kernel
theorem dX0_isLive_28 : decode cX0_isLive 28 = .ok (.iload_n 1, 1) := by decide +kernel
theorem dX0_isLive_29 : decode cX0_isLive 29 = .ok (.invokestatic 76, 3) := by decide +kernel
theorem dX0_isLive_32 : decode cX0_isLive 32 = .ok (.iload_n 2, 1) := by decide +kernel
theorem dX0_isLive_33 : decode cX0_isLive 33 = .ok (.if_icmp .le 7, 3) := by decide +kernel
theorem dX0_isLive_36 : decode cX0_isLive 36 = .ok (.iconst 1, 1) := by decide +kernel
theorem dX0_isLive_37 : decode cX0_isLive 37 = .ok (.goto 4, 3) := by decide +kernel
theorem dX0_isLive_40 : decode cX0_isLive 40 = .ok (.iconst 0, 1) := by decide +kernel
theorem dX0_isLive_41 : decode cX0_isLive 41 = .ok (.ireturn, 1) := by decide +kernel
theorem dX0_daysWithin_0 : decode cX0_daysWithin 0 = .ok (.aload_n 0, 1) := by decide +kernel
theorem dX0_daysWithin_1 : decode cX0_daysWithin 1 = .ok (.iload_n 1, 1) := by decide +kernel
theorem dX0_daysWithin_2 : decode cX0_daysWithin 2 = .ok (.invokevirtual 45, 3) := by decide +kernel
theorem dX0_daysWithin_5 : decode cX0_daysWithin 5 = .ok (.iload_n 2, 1) := by decide +kernel
theorem dX0_daysWithin_6 : decode cX0_daysWithin 6 = .ok (.invokestatic 80, 3) := by decide +kernel
theorem dX0_daysWithin_9 : decode cX0_daysWithin 9 = .ok (.istore 4, 2) := by decide +kernel
theorem dX0_daysWithin_11 : decode cX0_daysWithin 11 = .ok (.aload_n 0, 1) := by decide +kernel
theorem dX0_daysWithin_12 : decode cX0_daysWithin 12 = .ok (.iload_n 1, 1) := by decide +kernel
theorem dX0_daysWithin_13 : decode cX0_daysWithin 13 = .ok (.invokevirtual 52, 3) := by decide +kernel
theorem dX0_daysWithin_16 : decode cX0_daysWithin 16 = .ok (.iload_n 3, 1) := by decide +kernel
theorem dX0_daysWithin_17 : decode cX0_daysWithin 17 = .ok (.invokestatic 86, 3) := by decide +kernel
theorem dX0_daysWithin_20 : decode cX0_daysWithin 20 = .ok (.istore 5, 2) := by decide +kernel
theorem dX0_daysWithin_22 : decode cX0_daysWithin 22 = .ok (.iload 5, 2) := by decide +kernel
theorem dX0_daysWithin_24 : decode cX0_daysWithin 24 = .ok (.iload 4, 2) := by decide +kernel
theorem dX0_daysWithin_26 : decode cX0_daysWithin 26 = .ok (.isub, 1) := by decide +kernel
theorem dX0_daysWithin_27 : decode cX0_daysWithin 27 = .ok (.iconst 0, 1) := by decide +kernel
theorem dX0_daysWithin_28 : decode cX0_daysWithin 28 = .ok (.invokestatic 80, 3) := by decide +kernel
theorem dX0_daysWithin_31 : decode cX0_daysWithin 31 = .ok (.ireturn, 1) := by decide +kernel
theorem dX0_cell_0 : decode cX0_cell 0 = .ok (.iload_n 1, 1) := by decide +kernel
theorem dX0_cell_1 : decode cX0_cell 1 = .ok (.ifCond .lt 15, 3) := by decide +kernel
theorem dX0_cell_4 : decode cX0_cell 4 = .ok (.iload_n 1, 1) := by decide +kernel
theorem dX0_cell_5 : decode cX0_cell 5 = .ok (.aload_n 0, 1) := by decide +kernel
theorem dX0_cell_6 : decode cX0_cell 6 = .ok (.arraylength, 1) := by decide +kernel
theorem dX0_cell_7 : decode cX0_cell 7 = .ok (.if_icmp .ge 9, 3) := by decide +kernel
theorem dX0_cell_10 : decode cX0_cell 10 = .ok (.aload_n 0, 1) := by decide +kernel
theorem dX0_cell_11 : decode cX0_cell 11 = .ok (.iload_n 1, 1) := by decide +kernel
theorem dX0_cell_12 : decode cX0_cell 12 = .ok (.iaload, 1) := by decide +kernel
theorem dX0_cell_13 : decode cX0_cell 13 = .ok (.goto 4, 3) := by decide +kernel
theorem dX0_cell_16 : decode cX0_cell 16 = .ok (.iconst (-1), 1) := by decide +kernel
theorem dX0_cell_17 : decode cX0_cell 17 = .ok (.ireturn, 1) := by decide +kernel
theorem dX1_init_0 : decode cX1_init 0 = .ok (.aload_n 0, 1) := by decide +kernel
theorem dX1_init_1 : decode cX1_init 1 = .ok (.invokespecial 3, 3) := by decide +kernel
theorem dX1_init_4 : decode cX1_init 4 = .ok (.aload_n 0, 1) := by decide +kernel
theorem dX1_init_5 : decode cX1_init 5 = .ok (.bipush 100, 2) := by decide +kernel
theorem dX1_init_7 : decode cX1_init 7 = .ok (.newarray .boolean, 2) := by decide +kernel
theorem dX1_init_9 : decode cX1_init 9 = .ok (.putfield 9, 3) := by decide +kernel
theorem dX1_init_12 : decode cX1_init 12 = .ok (.aload_n 0, 1) := by decide +kernel
theorem dX1_init_13 : decode cX1_init 13 = .ok (.bipush 100, 2) := by decide +kernel
theorem dX1_init_15 : decode cX1_init 15 = .ok (.newarray .int, 2) := by decide +kernel
theorem dX1_init_17 : decode cX1_init 17 = .ok (.putfield 15, 3) := by decide +kernel
theorem dX1_init_20 : decode cX1_init 20 = .ok (.return_, 1) := by decide +kernel
theorem dX1_forget_0 : decode cX1_forget 0 = .ok (.aload_n 0, 1) := by decide +kernel
theorem dX1_forget_1 : decode cX1_forget 1 = .ok (.iconst 0, 1) := by decide +kernel
theorem dX1_forget_2 : decode cX1_forget 2 = .ok (.bipush 100, 2) := by decide +kernel
theorem dX1_forget_4 : decode cX1_forget 4 = .ok (.iconst 0, 1) := by decide +kernel
theorem dX1_forget_5 : decode cX1_forget 5 = .ok (.iconst 0, 1) := by decide +kernel
theorem dX1_forget_6 : decode cX1_forget 6 = .ok (.invokevirtual 19, 3) := by decide +kernel
theorem dX1_forget_9 : decode cX1_forget 9 = .ok (.return_, 1) := by decide +kernel
theorem dX1_put_0 : decode cX1_put 0 = .ok (.iload_n 1, 1) := by decide +kernel
theorem dX1_put_1 : decode cX1_put 1 = .ok (.iconst 0, 1) := by decide +kernel
theorem dX1_put_2 : decode cX1_put 2 = .ok (.invokestatic 23, 3) := by decide +kernel
theorem dX1_put_5 : decode cX1_put 5 = .ok (.istore 5, 2) := by decide +kernel
theorem dX1_put_7 : decode cX1_put 7 = .ok (.iload 5, 2) := by decide +kernel
theorem dX1_put_9 : decode cX1_put 9 = .ok (.iload_n 2, 1) := by decide +kernel
theorem dX1_put_10 : decode cX1_put 10 = .ok (.if_icmp .ge 33, 3) := by decide +kernel
theorem dX1_put_13 : decode cX1_put 13 = .ok (.iload 5, 2) := by decide +kernel
theorem dX1_put_15 : decode cX1_put 15 = .ok (.bipush 100, 2) := by decide +kernel
theorem dX1_put_17 : decode cX1_put 17 = .ok (.if_icmp .ge 26, 3) := by decide +kernel
theorem dX1_put_20 : decode cX1_put 20 = .ok (.aload_n 0, 1) := by decide +kernel
theorem dX1_put_21 : decode cX1_put 21 = .ok (.getfield 9, 3) := by decide +kernel
theorem dX1_put_24 : decode cX1_put 24 = .ok (.iload 5, 2) := by decide +kernel
theorem dX1_put_26 : decode cX1_put 26 = .ok (.iload_n 3, 1) := by decide +kernel
theorem dX1_put_27 : decode cX1_put 27 = .ok (.bastore, 1) := by decide +kernel
theorem dX1_put_28 : decode cX1_put 28 = .ok (.aload_n 0, 1) := by decide +kernel
theorem dX1_put_29 : decode cX1_put 29 = .ok (.getfield 15, 3) := by decide +kernel
theorem dX1_put_32 : decode cX1_put 32 = .ok (.iload 5, 2) := by decide +kernel
theorem dX1_put_34 : decode cX1_put 34 = .ok (.iload 4, 2) := by decide +kernel
theorem dX1_put_36 : decode cX1_put 36 = .ok (.iastore, 1) := by decide +kernel
theorem dX1_put_37 : decode cX1_put 37 = .ok (.iinc 5 1, 3) := by decide +kernel
theorem dX1_put_40 : decode cX1_put 40 = .ok (.goto (-33), 3) := by decide +kernel
theorem dX1_put_43 : decode cX1_put 43 = .ok (.return_, 1) := by decide +kernel
theorem dX1_has_0 : decode cX1_has 0 = .ok (.iload_n 1, 1) := by decide +kernel
theorem dX1_has_1 : decode cX1_has 1 = .ok (.ifCond .lt 22, 3) := by decide +kernel
theorem dX1_has_4 : decode cX1_has 4 = .ok (.iload_n 1, 1) := by decide +kernel
theorem dX1_has_5 : decode cX1_has 5 = .ok (.bipush 100, 2) := by decide +kernel
theorem dX1_has_7 : decode cX1_has 7 = .ok (.if_icmp .ge 16, 3) := by decide +kernel
theorem dX1_has_10 : decode cX1_has 10 = .ok (.aload_n 0, 1) := by decide +kernel
theorem dX1_has_11 : decode cX1_has 11 = .ok (.getfield 9, 3) := by decide +kernel
theorem dX1_has_14 : decode cX1_has 14 = .ok (.iload_n 1, 1) := by decide +kernel
theorem dX1_has_15 : decode cX1_has 15 = .ok (.baload, 1) := by decide +kernel
theorem dX1_has_16 : decode cX1_has 16 = .ok (.ifCond .eq 7, 3) := by decide +kernel
theorem dX1_has_19 : decode cX1_has 19 = .ok (.iconst 1, 1) := by decide +kernel
theorem dX1_has_20 : decode cX1_has 20 = .ok (.goto 4, 3) := by decide +kernel
theorem dX1_has_23 : decode cX1_has 23 = .ok (.iconst 0, 1) := by decide +kernel
theorem dX1_has_24 : decode cX1_has 24 = .ok (.ireturn, 1) := by decide +kernel
theorem dX1_value_0 : decode cX1_value 0 = .ok (.aload_n 0, 1) := by decide +kernel
theorem dX1_value_1 : decode cX1_value 1 = .ok (.iload_n 1, 1) := by decide +kernel
theorem dX1_value_2 : decode cX1_value 2 = .ok (.invokevirtual 29, 3) := by decide +kernel
theorem dX1_value_5 : decode cX1_value 5 = .ok (.ifCond .eq 12, 3) := by decide +kernel
theorem dX1_value_8 : decode cX1_value 8 = .ok (.aload_n 0, 1) := by decide +kernel
theorem dX1_value_9 : decode cX1_value 9 = .ok (.getfield 15, 3) := by decide +kernel
theorem dX1_value_12 : decode cX1_value 12 = .ok (.iload_n 1, 1) := by decide +kernel
theorem dX1_value_13 : decode cX1_value 13 = .ok (.iaload, 1) := by decide +kernel
theorem dX1_value_14 : decode cX1_value 14 = .ok (.goto 4, 3) := by decide +kernel
theorem dX1_value_17 : decode cX1_value 17 = .ok (.iconst 0, 1) := by decide +kernel
theorem dX1_value_18 : decode cX1_value 18 = .ok (.ireturn, 1) := by decide +kernel
theorem dX1_isAsTheDayBefore_0 : decode cX1_isAsTheDayBefore 0 = .ok (.aload_n 0, 1) := by decide +kernel
theorem dX1_isAsTheDayBefore_1 : decode cX1_isAsTheDayBefore 1 = .ok (.iload_n 1, 1) := by decide +kernel
theorem dX1_isAsTheDayBefore_2 : decode cX1_isAsTheDayBefore 2 = .ok (.invokevirtual 29, 3) := by decide +kernel
theorem dX1_isAsTheDayBefore_5 : decode cX1_isAsTheDayBefore 5 = .ok (.ifCond .eq 32, 3) := by decide +kernel
theorem dX1_isAsTheDayBefore_8 : decode cX1_isAsTheDayBefore 8 = .ok (.aload_n 0, 1) := by decide +kernel
theorem dX1_isAsTheDayBefore_9 : decode cX1_isAsTheDayBefore 9 = .ok (.iload_n 1, 1) := by decide +kernel
theorem dX1_isAsTheDayBefore_10 : decode cX1_isAsTheDayBefore 10 = .ok (.iconst 1, 1) := by decide +kernel
theorem dX1_isAsTheDayBefore_11 : decode cX1_isAsTheDayBefore 11 = .ok (.isub, 1) := by decide +kernel
theorem dX1_isAsTheDayBefore_12 : decode cX1_isAsTheDayBefore 12 = .ok (.invokevirtual 29, 3) := by decide +kernel
theorem dX1_isAsTheDayBefore_15 : decode cX1_isAsTheDayBefore 15 = .ok (.ifCond .eq 22, 3) := by decide +kernel
theorem dX1_isAsTheDayBefore_18 : decode cX1_isAsTheDayBefore 18 = .ok (.aload_n 0, 1) := by decide +kernel
theorem dX1_isAsTheDayBefore_19 : decode cX1_isAsTheDayBefore 19 = .ok (.iload_n 1, 1) := by decide +kernel
theorem dX1_isAsTheDayBefore_20 : decode cX1_isAsTheDayBefore 20 = .ok (.invokevirtual 33, 3) := by decide +kernel
theorem dX1_isAsTheDayBefore_23 : decode cX1_isAsTheDayBefore 23 = .ok (.aload_n 0, 1) := by decide +kernel
theorem dX1_isAsTheDayBefore_24 : decode cX1_isAsTheDayBefore 24 = .ok (.iload_n 1, 1) := by decide +kernel
theorem dX1_isAsTheDayBefore_25 : decode cX1_isAsTheDayBefore 25 = .ok (.iconst 1, 1) := by decide +kernel
theorem dX1_isAsTheDayBefore_26 : decode cX1_isAsTheDayBefore 26 = .ok (.isub, 1) := by decide +kernel
theorem dX1_isAsTheDayBefore_27 : decode cX1_isAsTheDayBefore 27 = .ok (.invokevirtual 33, 3) := by decide +kernel
theorem dX1_isAsTheDayBefore_30 : decode cX1_isAsTheDayBefore 30 = .ok (.if_icmp .ne 7, 3) := by decide +kernel
theorem dX1_isAsTheDayBefore_33 : decode cX1_isAsTheDayBefore 33 = .ok (.iconst 1, 1) := by decide +kernel
theorem dX1_isAsTheDayBefore_34 : decode cX1_isAsTheDayBefore 34 = .ok (.goto 4, 3) := by decide +kernel
theorem dX1_isAsTheDayBefore_37 : decode cX1_isAsTheDayBefore 37 = .ok (.iconst 0, 1) := by decide +kernel
theorem dX1_isAsTheDayBefore_38 : decode cX1_isAsTheDayBefore 38 = .ok (.ireturn, 1) := by decide +kernel
theorem dX1_sum_0 : decode cX1_sum 0 = .ok (.lconst 0, 1) := by decide +kernel
theorem dX1_sum_1 : decode cX1_sum 1 = .ok (.lstore_n 1, 1) := by decide +kernel
theorem dX1_sum_2 : decode cX1_sum 2 = .ok (.iconst 0, 1) := by decide +kernel
theorem dX1_sum_3 : decode cX1_sum 3 = .ok (.istore_n 3, 1) := by decide +kernel
theorem dX1_sum_4 : decode cX1_sum 4 = .ok (.iload_n 3, 1) := by decide +kernel
theorem dX1_sum_5 : decode cX1_sum 5 = .ok (.bipush 100, 2) := by decide +kernel
theorem dX1_sum_7 : decode cX1_sum 7 = .ok (.if_icmp .ge 18, 3) := by decide +kernel
theorem dX1_sum_10 : decode cX1_sum 10 = .ok (.lload_n 1, 1) := by decide +kernel
theorem dX1_sum_11 : decode cX1_sum 11 = .ok (.aload_n 0, 1) := by decide +kernel
theorem dX1_sum_12 : decode cX1_sum 12 = .ok (.iload_n 3, 1) := by decide +kernel
theorem dX1_sum_13 : decode cX1_sum 13 = .ok (.invokevirtual 33, 3) := by decide +kernel
theorem dX1_sum_16 : decode cX1_sum 16 = .ok (.i2l, 1) := by decide +kernel
theorem dX1_sum_17 : decode cX1_sum 17 = .ok (.ladd, 1) := by decide +kernel
theorem dX1_sum_18 : decode cX1_sum 18 = .ok (.lstore_n 1, 1) := by decide +kernel
theorem dX1_sum_19 : decode cX1_sum 19 = .ok (.iinc 3 1, 3) := by decide +kernel
theorem dX1_sum_22 : decode cX1_sum 22 = .ok (.goto (-18), 3) := by decide +kernel
theorem dX1_sum_25 : decode cX1_sum 25 = .ok (.lload_n 1, 1) := by decide +kernel
theorem dX1_sum_26 : decode cX1_sum 26 = .ok (.lreturn, 1) := by decide +kernel
theorem dX1_countCommon_0 : decode cX1_countCommon 0 = .ok (.iconst 0, 1) := by decide +kernel
theorem dX1_countCommon_1 : decode cX1_countCommon 1 = .ok (.istore_n 2, 1) := by decide +kernel
theorem dX1_countCommon_2 : decode cX1_countCommon 2 = .ok (.iconst 0, 1) := by decide +kernel
theorem dX1_countCommon_3 : decode cX1_countCommon 3 = .ok (.istore_n 3, 1) := by decide +kernel
theorem dX1_countCommon_4 : decode cX1_countCommon 4 = .ok (.iload_n 3, 1) := by decide +kernel
theorem dX1_countCommon_5 : decode cX1_countCommon 5 = .ok (.bipush 100, 2) := by decide +kernel
theorem dX1_countCommon_7 : decode cX1_countCommon 7 = .ok (.if_icmp .ge 33, 3) := by decide +kernel
theorem dX1_countCommon_10 : decode cX1_countCommon 10 = .ok (.iload_n 2, 1) := by decide +kernel
theorem dX1_countCommon_11 : decode cX1_countCommon 11 = .ok (.aload_n 0, 1) := by decide +kernel
theorem dX1_countCommon_12 : decode cX1_countCommon 12 = .ok (.iload_n 3, 1) := by decide +kernel
theorem dX1_countCommon_13 : decode cX1_countCommon 13 = .ok (.invokevirtual 29, 3) := by decide +kernel
theorem dX1_countCommon_16 : decode cX1_countCommon 16 = .ok (.ifCond .eq 15, 3) := by decide +kernel
theorem dX1_countCommon_19 : decode cX1_countCommon 19 = .ok (.aload_n 1, 1) := by decide +kernel
theorem dX1_countCommon_20 : decode cX1_countCommon 20 = .ok (.iload_n 3, 1) := by decide +kernel
theorem dX1_countCommon_21 : decode cX1_countCommon 21 = .ok (.invokevirtual 29, 3) := by decide +kernel
theorem dX1_countCommon_24 : decode cX1_countCommon 24 = .ok (.ifCond .eq 7, 3) := by decide +kernel
theorem dX1_countCommon_27 : decode cX1_countCommon 27 = .ok (.iconst 1, 1) := by decide +kernel
theorem dX1_countCommon_28 : decode cX1_countCommon 28 = .ok (.goto 4, 3) := by decide +kernel
theorem dX1_countCommon_31 : decode cX1_countCommon 31 = .ok (.iconst 0, 1) := by decide +kernel
theorem dX1_countCommon_32 : decode cX1_countCommon 32 = .ok (.iadd, 1) := by decide +kernel
theorem dX1_countCommon_33 : decode cX1_countCommon 33 = .ok (.istore_n 2, 1) := by decide +kernel
theorem dX1_countCommon_34 : decode cX1_countCommon 34 = .ok (.iinc 3 1, 3) := by decide +kernel
theorem dX1_countCommon_37 : decode cX1_countCommon 37 = .ok (.goto (-33), 3) := by decide +kernel
theorem dX1_countCommon_40 : decode cX1_countCommon 40 = .ok (.iload_n 2, 1) := by decide +kernel
theorem dX1_countCommon_41 : decode cX1_countCommon 41 = .ok (.ireturn, 1) := by decide +kernel
theorem dX1_countAgreeing_0 : decode cX1_countAgreeing 0 = .ok (.iconst 0, 1) := by decide +kernel
theorem dX1_countAgreeing_1 : decode cX1_countAgreeing 1 = .ok (.istore_n 2, 1) := by decide +kernel
theorem dX1_countAgreeing_2 : decode cX1_countAgreeing 2 = .ok (.iconst 0, 1) := by decide +kernel
theorem dX1_countAgreeing_3 : decode cX1_countAgreeing 3 = .ok (.istore_n 3, 1) := by decide +kernel
theorem dX1_countAgreeing_4 : decode cX1_countAgreeing 4 = .ok (.iload_n 3, 1) := by decide +kernel
theorem dX1_countAgreeing_5 : decode cX1_countAgreeing 5 = .ok (.bipush 100, 2) := by decide +kernel
theorem dX1_countAgreeing_7 : decode cX1_countAgreeing 7 = .ok (.if_icmp .ge 46, 3) := by decide +kernel
theorem dX1_countAgreeing_10 : decode cX1_countAgreeing 10 = .ok (.iload_n 2, 1) := by decide +kernel
theorem dX1_countAgreeing_11 : decode cX1_countAgreeing 11 = .ok (.aload_n 0, 1) := by decide +kernel
theorem dX1_countAgreeing_12 : decode cX1_countAgreeing 12 = .ok (.iload_n 3, 1) := by decide +kernel
theorem dX1_countAgreeing_13 : decode cX1_countAgreeing 13 = .ok (.invokevirtual 29, 3) := by decide +kernel
theorem dX1_countAgreeing_16 : decode cX1_countAgreeing 16 = .ok (.ifCond .eq 28, 3) := by decide +kernel
theorem dX1_countAgreeing_19 : decode cX1_countAgreeing 19 = .ok (.aload_n 1, 1) := by decide +kernel
theorem dX1_countAgreeing_20 : decode cX1_countAgreeing 20 = .ok (.iload_n 3, 1) := by decide +kernel
theorem dX1_countAgreeing_21 : decode cX1_countAgreeing 21 = .ok (.invokevirtual 29, 3) := by decide +kernel
theorem dX1_countAgreeing_24 : decode cX1_countAgreeing 24 = .ok (.ifCond .eq 20, 3) := by decide +kernel
theorem dX1_countAgreeing_27 : decode cX1_countAgreeing 27 = .ok (.aload_n 0, 1) := by decide +kernel
theorem dX1_countAgreeing_28 : decode cX1_countAgreeing 28 = .ok (.iload_n 3, 1) := by decide +kernel
theorem dX1_countAgreeing_29 : decode cX1_countAgreeing 29 = .ok (.invokevirtual 33, 3) := by decide +kernel
theorem dX1_countAgreeing_32 : decode cX1_countAgreeing 32 = .ok (.aload_n 1, 1) := by decide +kernel
theorem dX1_countAgreeing_33 : decode cX1_countAgreeing 33 = .ok (.iload_n 3, 1) := by decide +kernel
theorem dX1_countAgreeing_34 : decode cX1_countAgreeing 34 = .ok (.invokevirtual 33, 3) := by decide +kernel
theorem dX1_countAgreeing_37 : decode cX1_countAgreeing 37 = .ok (.if_icmp .ne 7, 3) := by decide +kernel
theorem dX1_countAgreeing_40 : decode cX1_countAgreeing 40 = .ok (.iconst 1, 1) := by decide +kernel
theorem dX1_countAgreeing_41 : decode cX1_countAgreeing 41 = .ok (.goto 4, 3) := by decide +kernel
theorem dX1_countAgreeing_44 : decode cX1_countAgreeing 44 = .ok (.iconst 0, 1) := by decide +kernel
theorem dX1_countAgreeing_45 : decode cX1_countAgreeing 45 = .ok (.iadd, 1) := by decide +kernel
theorem dX1_countAgreeing_46 : decode cX1_countAgreeing 46 = .ok (.istore_n 2, 1) := by decide +kernel
theorem dX1_countAgreeing_47 : decode cX1_countAgreeing 47 = .ok (.iinc 3 1, 3) := by decide +kernel
theorem dX1_countAgreeing_50 : decode cX1_countAgreeing 50 = .ok (.goto (-46), 3) := by decide +kernel
theorem dX1_countAgreeing_53 : decode cX1_countAgreeing 53 = .ok (.iload_n 2, 1) := by decide +kernel
theorem dX1_countAgreeing_54 : decode cX1_countAgreeing 54 = .ok (.ireturn, 1) := by decide +kernel
theorem dX1_countDifferent_0 : decode cX1_countDifferent 0 = .ok (.iconst 0, 1) := by decide +kernel
theorem dX1_countDifferent_1 : decode cX1_countDifferent 1 = .ok (.istore_n 2, 1) := by decide +kernel
theorem dX1_countDifferent_2 : decode cX1_countDifferent 2 = .ok (.iconst 0, 1) := by decide +kernel
theorem dX1_countDifferent_3 : decode cX1_countDifferent 3 = .ok (.istore_n 3, 1) := by decide +kernel
theorem dX1_countDifferent_4 : decode cX1_countDifferent 4 = .ok (.iload_n 3, 1) := by decide +kernel
theorem dX1_countDifferent_5 : decode cX1_countDifferent 5 = .ok (.bipush 100, 2) := by decide +kernel
theorem dX1_countDifferent_7 : decode cX1_countDifferent 7 = .ok (.if_icmp .ge 43, 3) := by decide +kernel
theorem dX1_countDifferent_10 : decode cX1_countDifferent 10 = .ok (.iload_n 2, 1) := by decide +kernel
theorem dX1_countDifferent_11 : decode cX1_countDifferent 11 = .ok (.aload_n 0, 1) := by decide +kernel
theorem dX1_countDifferent_12 : decode cX1_countDifferent 12 = .ok (.iload_n 3, 1) := by decide +kernel
theorem dX1_countDifferent_13 : decode cX1_countDifferent 13 = .ok (.invokevirtual 29, 3) := by decide +kernel
theorem dX1_countDifferent_16 : decode cX1_countDifferent 16 = .ok (.aload_n 1, 1) := by decide +kernel
theorem dX1_countDifferent_17 : decode cX1_countDifferent 17 = .ok (.iload_n 3, 1) := by decide +kernel
theorem dX1_countDifferent_18 : decode cX1_countDifferent 18 = .ok (.invokevirtual 29, 3) := by decide +kernel
theorem dX1_countDifferent_21 : decode cX1_countDifferent 21 = .ok (.if_icmp .ne 16, 3) := by decide +kernel
theorem dX1_countDifferent_24 : decode cX1_countDifferent 24 = .ok (.aload_n 0, 1) := by decide +kernel
theorem dX1_countDifferent_25 : decode cX1_countDifferent 25 = .ok (.iload_n 3, 1) := by decide +kernel
theorem dX1_countDifferent_26 : decode cX1_countDifferent 26 = .ok (.invokevirtual 33, 3) := by decide +kernel
theorem dX1_countDifferent_29 : decode cX1_countDifferent 29 = .ok (.aload_n 1, 1) := by decide +kernel
theorem dX1_countDifferent_30 : decode cX1_countDifferent 30 = .ok (.iload_n 3, 1) := by decide +kernel
theorem dX1_countDifferent_31 : decode cX1_countDifferent 31 = .ok (.invokevirtual 33, 3) := by decide +kernel
theorem dX1_countDifferent_34 : decode cX1_countDifferent 34 = .ok (.if_icmp .eq 7, 3) := by decide +kernel
theorem dX1_countDifferent_37 : decode cX1_countDifferent 37 = .ok (.iconst 1, 1) := by decide +kernel
theorem dX1_countDifferent_38 : decode cX1_countDifferent 38 = .ok (.goto 4, 3) := by decide +kernel
theorem dX1_countDifferent_41 : decode cX1_countDifferent 41 = .ok (.iconst 0, 1) := by decide +kernel
theorem dX1_countDifferent_42 : decode cX1_countDifferent 42 = .ok (.iadd, 1) := by decide +kernel
theorem dX1_countDifferent_43 : decode cX1_countDifferent 43 = .ok (.istore_n 2, 1) := by decide +kernel
theorem dX1_countDifferent_44 : decode cX1_countDifferent 44 = .ok (.iinc 3 1, 3) := by decide +kernel
theorem dX1_countDifferent_47 : decode cX1_countDifferent 47 = .ok (.goto (-43), 3) := by decide +kernel
theorem dX1_countDifferent_50 : decode cX1_countDifferent 50 = .ok (.iload_n 2, 1) := by decide +kernel
theorem dX1_countDifferent_51 : decode cX1_countDifferent 51 = .ok (.ireturn, 1) := by decide +kernel
theorem dX2_init_0 : decode cX2_init 0 = .ok (.aload_n 0, 1) := by decide +kernel
theorem dX2_init_1 : decode cX2_init 1 = .ok (.invokespecial 3, 3) := by decide +kernel
theorem dX2_init_4 : decode cX2_init 4 = .ok (.aload_n 0, 1) := by decide +kernel
theorem dX2_init_5 : decode cX2_init 5 = .ok (.sipush 1900, 3) := by decide +kernel
theorem dX2_init_8 : decode cX2_init 8 = .ok (.newarray .char, 2) := by decide +kernel
theorem dX2_init_10 : decode cX2_init 10 = .ok (.putfield 9, 3) := by decide +kernel
theorem dX2_init_13 : decode cX2_init 13 = .ok (.aload_n 0, 1) := by decide +kernel
theorem dX2_init_14 : decode cX2_init 14 = .ok (.iconst 0, 1) := by decide +kernel
theorem dX2_init_15 : decode cX2_init 15 = .ok (.putfield 15, 3) := by decide +kernel
theorem dX2_init_18 : decode cX2_init 18 = .ok (.return_, 1) := by decide +kernel
theorem dX2_write_0 : decode cX2_write 0 = .ok (.aload_n 0, 1) := by decide +kernel
theorem dX2_write_1 : decode cX2_write 1 = .ok (.iconst 0, 1) := by decide +kernel
theorem dX2_write_2 : decode cX2_write 2 = .ok (.putfield 15, 3) := by decide +kernel
theorem dX2_write_5 : decode cX2_write 5 = .ok (.iconst 0, 1) := by decide +kernel
theorem dX2_write_6 : decode cX2_write 6 = .ok (.istore_n 3, 1) := by decide +kernel
theorem dX2_write_7 : decode cX2_write 7 = .ok (.iload_n 3, 1) := by decide +kernel
theorem dX2_write_8 : decode cX2_write 8 = .ok (.aload_n 1, 1) := by decide +kernel
theorem dX2_write_9 : decode cX2_write 9 = .ok (.invokevirtual 19, 3) := by decide +kernel
theorem dX2_write_12 : decode cX2_write 12 = .ok (.if_icmp .ge 62, 3) := by decide +kernel
theorem dX2_write_15 : decode cX2_write 15 = .ok (.iload_n 3, 1) := by decide +kernel
theorem dX2_write_16 : decode cX2_write 16 = .ok (.ifCond .le 9, 3) := by decide +kernel
theorem dX2_write_19 : decode cX2_write 19 = .ok (.aload_n 0, 1) := by decide +kernel
theorem dX2_write_20 : decode cX2_write 20 = .ok (.bipush 32, 2) := by decide +kernel
theorem dX2_write_22 : decode cX2_write 22 = .ok (.invokevirtual 25, 3) := by decide +kernel
theorem dX2_write_25 : decode cX2_write 25 = .ok (.aload_n 0, 1) := by decide +kernel
theorem dX2_write_26 : decode cX2_write 26 = .ok (.aload_n 1, 1) := by decide +kernel
theorem dX2_write_27 : decode cX2_write 27 = .ok (.iload_n 3, 1) := by decide +kernel
theorem dX2_write_28 : decode cX2_write 28 = .ok (.invokevirtual 29, 3) := by decide +kernel
theorem dX2_write_31 : decode cX2_write 31 = .ok (.invokevirtual 33, 3) := by decide +kernel
theorem dX2_write_34 : decode cX2_write 34 = .ok (.aload_n 0, 1) := by decide +kernel
theorem dX2_write_35 : decode cX2_write 35 = .ok (.bipush 45, 2) := by decide +kernel
theorem dX2_write_37 : decode cX2_write 37 = .ok (.invokevirtual 25, 3) := by decide +kernel
theorem dX2_write_40 : decode cX2_write 40 = .ok (.aload_n 0, 1) := by decide +kernel
theorem dX2_write_41 : decode cX2_write 41 = .ok (.aload_n 1, 1) := by decide +kernel
theorem dX2_write_42 : decode cX2_write 42 = .ok (.iload_n 3, 1) := by decide +kernel
theorem dX2_write_43 : decode cX2_write 43 = .ok (.invokevirtual 37, 3) := by decide +kernel
theorem dX2_write_46 : decode cX2_write 46 = .ok (.invokevirtual 33, 3) := by decide +kernel
theorem dX2_write_49 : decode cX2_write 49 = .ok (.aload_n 0, 1) := by decide +kernel
theorem dX2_write_50 : decode cX2_write 50 = .ok (.bipush 61, 2) := by decide +kernel
theorem dX2_write_52 : decode cX2_write 52 = .ok (.invokevirtual 25, 3) := by decide +kernel
theorem dX2_write_55 : decode cX2_write 55 = .ok (.aload_n 0, 1) := by decide +kernel
theorem dX2_write_56 : decode cX2_write 56 = .ok (.aload_n 2, 1) := by decide +kernel
theorem dX2_write_57 : decode cX2_write 57 = .ok (.aload_n 1, 1) := by decide +kernel
theorem dX2_write_58 : decode cX2_write 58 = .ok (.iload_n 3, 1) := by decide +kernel
theorem dX2_write_59 : decode cX2_write 59 = .ok (.invokevirtual 29, 3) := by decide +kernel
theorem dX2_write_62 : decode cX2_write 62 = .ok (.invokevirtual 40, 3) := by decide +kernel
theorem dX2_write_65 : decode cX2_write 65 = .ok (.invokevirtual 33, 3) := by decide +kernel
theorem dX2_write_68 : decode cX2_write 68 = .ok (.iinc 3 1, 3) := by decide +kernel
theorem dX2_write_71 : decode cX2_write 71 = .ok (.goto (-64), 3) := by decide +kernel
theorem dX2_write_74 : decode cX2_write 74 = .ok (.return_, 1) := by decide +kernel
theorem dX2_size_0 : decode cX2_size 0 = .ok (.aload_n 0, 1) := by decide +kernel
theorem dX2_size_1 : decode cX2_size 1 = .ok (.getfield 15, 3) := by decide +kernel
theorem dX2_size_4 : decode cX2_size 4 = .ok (.ireturn, 1) := by decide +kernel
theorem dX2_sign_0 : decode cX2_sign 0 = .ok (.iload_n 1, 1) := by decide +kernel
theorem dX2_sign_1 : decode cX2_sign 1 = .ok (.ifCond .lt 20, 3) := by decide +kernel
theorem dX2_sign_4 : decode cX2_sign 4 = .ok (.iload_n 1, 1) := by decide +kernel
theorem dX2_sign_5 : decode cX2_sign 5 = .ok (.aload_n 0, 1) := by decide +kernel
theorem dX2_sign_6 : decode cX2_sign 6 = .ok (.getfield 15, 3) := by decide +kernel
theorem dX2_sign_9 : decode cX2_sign 9 = .ok (.if_icmp .ge 12, 3) := by decide +kernel
theorem dX2_sign_12 : decode cX2_sign 12 = .ok (.aload_n 0, 1) := by decide +kernel
theorem dX2_sign_13 : decode cX2_sign 13 = .ok (.getfield 9, 3) := by decide +kernel
theorem dX2_sign_16 : decode cX2_sign 16 = .ok (.iload_n 1, 1) := by decide +kernel
theorem dX2_sign_17 : decode cX2_sign 17 = .ok (.caload, 1) := by decide +kernel
theorem dX2_sign_18 : decode cX2_sign 18 = .ok (.goto 5, 3) := by decide +kernel
theorem dX2_sign_21 : decode cX2_sign 21 = .ok (.bipush 32, 2) := by decide +kernel
theorem dX2_sign_23 : decode cX2_sign 23 = .ok (.ireturn, 1) := by decide +kernel
theorem dX2_put_0 : decode cX2_put 0 = .ok (.aload_n 0, 1) := by decide +kernel
theorem dX2_put_1 : decode cX2_put 1 = .ok (.getfield 15, 3) := by decide +kernel
theorem dX2_put_4 : decode cX2_put 4 = .ok (.aload_n 0, 1) := by decide +kernel
theorem dX2_put_5 : decode cX2_put 5 = .ok (.getfield 9, 3) := by decide +kernel
theorem dX2_put_8 : decode cX2_put 8 = .ok (.arraylength, 1) := by decide +kernel
theorem dX2_put_9 : decode cX2_put 9 = .ok (.if_icmp .ge 23, 3) := by decide +kernel
theorem dX2_put_12 : decode cX2_put 12 = .ok (.aload_n 0, 1) := by decide +kernel
theorem dX2_put_13 : decode cX2_put 13 = .ok (.getfield 9, 3) := by decide +kernel
theorem dX2_put_16 : decode cX2_put 16 = .ok (.aload_n 0, 1) := by decide +kernel
theorem dX2_put_17 : decode cX2_put 17 = .ok (.getfield 15, 3) := by decide +kernel
theorem dX2_put_20 : decode cX2_put 20 = .ok (.iload_n 1, 1) := by decide +kernel
theorem dX2_put_21 : decode cX2_put 21 = .ok (.castore, 1) := by decide +kernel
theorem dX2_put_22 : decode cX2_put 22 = .ok (.aload_n 0, 1) := by decide +kernel
theorem dX2_put_23 : decode cX2_put 23 = .ok (.dup, 1) := by decide +kernel
theorem dX2_put_24 : decode cX2_put 24 = .ok (.getfield 15, 3) := by decide +kernel
theorem dX2_put_27 : decode cX2_put 27 = .ok (.iconst 1, 1) := by decide +kernel
theorem dX2_put_28 : decode cX2_put 28 = .ok (.iadd, 1) := by decide +kernel
theorem dX2_put_29 : decode cX2_put 29 = .ok (.putfield 15, 3) := by decide +kernel
theorem dX2_put_32 : decode cX2_put 32 = .ok (.return_, 1) := by decide +kernel
theorem dX2_putNumber_0 : decode cX2_putNumber 0 = .ok (.iload_n 1, 1) := by decide +kernel
theorem dX2_putNumber_1 : decode cX2_putNumber 1 = .ok (.i2l, 1) := by decide +kernel
theorem dX2_putNumber_2 : decode cX2_putNumber 2 = .ok (.lstore_n 2, 1) := by decide +kernel
theorem dX2_putNumber_3 : decode cX2_putNumber 3 = .ok (.lload_n 2, 1) := by decide +kernel
theorem dX2_putNumber_4 : decode cX2_putNumber 4 = .ok (.lconst 0, 1) := by decide +kernel
theorem dX2_putNumber_5 : decode cX2_putNumber 5 = .ok (.lcmp, 1) := by decide +kernel
theorem dX2_putNumber_6 : decode cX2_putNumber 6 = .ok (.ifCond .ge 12, 3) := by decide +kernel
theorem dX2_putNumber_9 : decode cX2_putNumber 9 = .ok (.aload_n 0, 1) := by decide +kernel
theorem dX2_putNumber_10 : decode cX2_putNumber 10 = .ok (.bipush 45, 2) := by decide +kernel
theorem dX2_putNumber_12 : decode cX2_putNumber 12 = .ok (.invokevirtual 25, 3) := by decide +kernel
theorem dX2_putNumber_15 : decode cX2_putNumber 15 = .ok (.lload_n 2, 1) := by decide +kernel
theorem dX2_putNumber_16 : decode cX2_putNumber 16 = .ok (.lneg, 1) := by decide +kernel
theorem dX2_putNumber_17 : decode cX2_putNumber 17 = .ok (.lstore_n 2, 1) := by decide +kernel
theorem dX2_putNumber_18 : decode cX2_putNumber 18 = .ok (.ldc2_w 45, 3) := by decide +kernel
theorem dX2_putNumber_21 : decode cX2_putNumber 21 = .ok (.lstore 4, 2) := by decide +kernel
theorem dX2_putNumber_23 : decode cX2_putNumber 23 = .ok (.lload 4, 2) := by decide +kernel
theorem dX2_putNumber_25 : decode cX2_putNumber 25 = .ok (.lconst 0, 1) := by decide +kernel
theorem dX2_putNumber_26 : decode cX2_putNumber 26 = .ok (.lcmp, 1) := by decide +kernel
theorem dX2_putNumber_27 : decode cX2_putNumber 27 = .ok (.ifCond .le 46, 3) := by decide +kernel
theorem dX2_putNumber_30 : decode cX2_putNumber 30 = .ok (.lload_n 2, 1) := by decide +kernel
theorem dX2_putNumber_31 : decode cX2_putNumber 31 = .ok (.lload 4, 2) := by decide +kernel
theorem dX2_putNumber_33 : decode cX2_putNumber 33 = .ok (.lcmp, 1) := by decide +kernel
theorem dX2_putNumber_34 : decode cX2_putNumber 34 = .ok (.ifCond .ge 10, 3) := by decide +kernel
theorem dX2_putNumber_37 : decode cX2_putNumber 37 = .ok (.lload 4, 2) := by decide +kernel
theorem dX2_putNumber_39 : decode cX2_putNumber 39 = .ok (.lconst 1, 1) := by decide +kernel
theorem dX2_putNumber_40 : decode cX2_putNumber 40 = .ok (.lcmp, 1) := by decide +kernel
theorem dX2_putNumber_41 : decode cX2_putNumber 41 = .ok (.ifCond .ne 21, 3) := by decide +kernel
theorem dX2_putNumber_44 : decode cX2_putNumber 44 = .ok (.aload_n 0, 1) := by decide +kernel
theorem dX2_putNumber_45 : decode cX2_putNumber 45 = .ok (.ldc2_w 47, 3) := by decide +kernel
theorem dX2_putNumber_48 : decode cX2_putNumber 48 = .ok (.lload_n 2, 1) := by decide +kernel
theorem dX2_putNumber_49 : decode cX2_putNumber 49 = .ok (.lload 4, 2) := by decide +kernel
theorem dX2_putNumber_51 : decode cX2_putNumber 51 = .ok (.ldiv, 1) := by decide +kernel
theorem dX2_putNumber_52 : decode cX2_putNumber 52 = .ok (.ldc2_w 49, 3) := by decide +kernel
theorem dX2_putNumber_55 : decode cX2_putNumber 55 = .ok (.lrem, 1) := by decide +kernel
theorem dX2_putNumber_56 : decode cX2_putNumber 56 = .ok (.ladd, 1) := by decide +kernel
theorem dX2_putNumber_57 : decode cX2_putNumber 57 = .ok (.l2i, 1) := by decide +kernel
theorem dX2_putNumber_58 : decode cX2_putNumber 58 = .ok (.i2c, 1) := by decide +kernel
theorem dX2_putNumber_59 : decode cX2_putNumber 59 = .ok (.invokevirtual 25, 3) := by decide +kernel
theorem dX2_putNumber_62 : decode cX2_putNumber 62 = .ok (.lload 4, 2) := by decide +kernel
theorem dX2_putNumber_64 : decode cX2_putNumber 64 = .ok (.ldc2_w 49, 3) := by decide +kernel
theorem dX2_putNumber_67 : decode cX2_putNumber 67 = .ok (.ldiv, 1) := by decide +kernel
theorem dX2_putNumber_68 : decode cX2_putNumber 68 = .ok (.lstore 4, 2) := by decide +kernel
theorem dX2_putNumber_70 : decode cX2_putNumber 70 = .ok (.goto (-47), 3) := by decide +kernel
theorem dX2_putNumber_73 : decode cX2_putNumber 73 = .ok (.return_, 1) := by decide +kernel
theorem dX3_init_0 : decode cX3_init 0 = .ok (.aload_n 0, 1) := by decide +kernel
theorem dX3_init_1 : decode cX3_init 1 = .ok (.invokespecial 3, 3) := by decide +kernel
theorem dX3_init_4 : decode cX3_init 4 = .ok (.aload_n 0, 1) := by decide +kernel
theorem dX3_init_5 : decode cX3_init 5 = .ok (.bipush 61, 2) := by decide +kernel
theorem dX3_init_7 : decode cX3_init 7 = .ok (.newarray .char, 2) := by decide +kernel
theorem dX3_init_9 : decode cX3_init 9 = .ok (.putfield 9, 3) := by decide +kernel
theorem dX3_init_12 : decode cX3_init 12 = .ok (.aload_n 0, 1) := by decide +kernel
theorem dX3_init_13 : decode cX3_init 13 = .ok (.bipush 61, 2) := by decide +kernel
theorem dX3_init_15 : decode cX3_init 15 = .ok (.newarray .int, 2) := by decide +kernel
theorem dX3_init_17 : decode cX3_init 17 = .ok (.putfield 15, 3) := by decide +kernel
theorem dX3_init_20 : decode cX3_init 20 = .ok (.aload_n 0, 1) := by decide +kernel
theorem dX3_init_21 : decode cX3_init 21 = .ok (.bipush 61, 2) := by decide +kernel
theorem dX3_init_23 : decode cX3_init 23 = .ok (.newarray .int, 2) := by decide +kernel
theorem dX3_init_25 : decode cX3_init 25 = .ok (.putfield 19, 3) := by decide +kernel
theorem dX3_init_28 : decode cX3_init 28 = .ok (.aload_n 0, 1) := by decide +kernel
theorem dX3_init_29 : decode cX3_init 29 = .ok (.bipush 61, 2) := by decide +kernel
theorem dX3_init_31 : decode cX3_init 31 = .ok (.newarray .int, 2) := by decide +kernel
theorem dX3_init_33 : decode cX3_init 33 = .ok (.putfield 22, 3) := by decide +kernel
theorem dX3_init_36 : decode cX3_init 36 = .ok (.aload_n 0, 1) := by decide +kernel
theorem dX3_init_37 : decode cX3_init 37 = .ok (.bipush 61, 2) := by decide +kernel
theorem dX3_init_39 : decode cX3_init 39 = .ok (.newarray .int, 2) := by decide +kernel
theorem dX3_init_41 : decode cX3_init 41 = .ok (.putfield 25, 3) := by decide +kernel
theorem dX3_init_44 : decode cX3_init 44 = .ok (.aload_n 0, 1) := by decide +kernel
theorem dX3_init_45 : decode cX3_init 45 = .ok (.iconst 0, 1) := by decide +kernel
theorem dX3_init_46 : decode cX3_init 46 = .ok (.putfield 28, 3) := by decide +kernel
theorem dX3_init_49 : decode cX3_init 49 = .ok (.return_, 1) := by decide +kernel
theorem dX3_now_0 : decode cX3_now 0 = .ok (.aload_n 0, 1) := by decide +kernel
theorem dX3_now_1 : decode cX3_now 1 = .ok (.getfield 28, 3) := by decide +kernel
theorem dX3_now_4 : decode cX3_now 4 = .ok (.ireturn, 1) := by decide +kernel
theorem dX3_isFull_0 : decode cX3_isFull 0 = .ok (.aload_n 0, 1) := by decide +kernel
theorem dX3_isFull_1 : decode cX3_isFull 1 = .ok (.getfield 28, 3) := by decide +kernel
theorem dX3_isFull_4 : decode cX3_isFull 4 = .ok (.bipush 60, 2) := by decide +kernel
theorem dX3_isFull_6 : decode cX3_isFull 6 = .ok (.if_icmp .lt 7, 3) := by decide +kernel
theorem dX3_isFull_9 : decode cX3_isFull 9 = .ok (.iconst 1, 1) := by decide +kernel
theorem dX3_isFull_10 : decode cX3_isFull 10 = .ok (.goto 4, 3) := by decide +kernel
theorem dX3_isFull_13 : decode cX3_isFull 13 = .ok (.iconst 0, 1) := by decide +kernel
theorem dX3_isFull_14 : decode cX3_isFull 14 = .ok (.ireturn, 1) := by decide +kernel
theorem dX3_add_0 : decode cX3_add 0 = .ok (.aload_n 0, 1) := by decide +kernel
theorem dX3_add_1 : decode cX3_add 1 = .ok (.invokevirtual 32, 3) := by decide +kernel
theorem dX3_add_4 : decode cX3_add 4 = .ok (.ifCond .ne 65, 3) := by decide +kernel
theorem dX3_add_7 : decode cX3_add 7 = .ok (.aload_n 0, 1) := by decide +kernel
theorem dX3_add_8 : decode cX3_add 8 = .ok (.dup, 1) := by decide +kernel
theorem dX3_add_9 : decode cX3_add 9 = .ok (.getfield 28, 3) := by decide +kernel
theorem dX3_add_12 : decode cX3_add 12 = .ok (.iconst 1, 1) := by decide +kernel
theorem dX3_add_13 : decode cX3_add 13 = .ok (.iadd, 1) := by decide +kernel
theorem dX3_add_14 : decode cX3_add 14 = .ok (.putfield 28, 3) := by decide +kernel
theorem dX3_add_17 : decode cX3_add 17 = .ok (.aload_n 0, 1) := by decide +kernel
theorem dX3_add_18 : decode cX3_add 18 = .ok (.getfield 9, 3) := by decide +kernel
theorem dX3_add_21 : decode cX3_add 21 = .ok (.aload_n 0, 1) := by decide +kernel
theorem dX3_add_22 : decode cX3_add 22 = .ok (.getfield 28, 3) := by decide +kernel
theorem dX3_add_25 : decode cX3_add 25 = .ok (.iload_n 1, 1) := by decide +kernel
theorem dX3_add_26 : decode cX3_add 26 = .ok (.castore, 1) := by decide +kernel
theorem dX3_add_27 : decode cX3_add 27 = .ok (.aload_n 0, 1) := by decide +kernel
theorem dX3_add_28 : decode cX3_add 28 = .ok (.getfield 15, 3) := by decide +kernel
theorem dX3_add_31 : decode cX3_add 31 = .ok (.aload_n 0, 1) := by decide +kernel
theorem dX3_add_32 : decode cX3_add 32 = .ok (.getfield 28, 3) := by decide +kernel
theorem dX3_add_35 : decode cX3_add 35 = .ok (.iload_n 2, 1) := by decide +kernel
theorem dX3_add_36 : decode cX3_add 36 = .ok (.iastore, 1) := by decide +kernel
theorem dX3_add_37 : decode cX3_add 37 = .ok (.aload_n 0, 1) := by decide +kernel
theorem dX3_add_38 : decode cX3_add 38 = .ok (.getfield 19, 3) := by decide +kernel
theorem dX3_add_41 : decode cX3_add 41 = .ok (.aload_n 0, 1) := by decide +kernel
theorem dX3_add_42 : decode cX3_add 42 = .ok (.getfield 28, 3) := by decide +kernel
theorem dX3_add_45 : decode cX3_add 45 = .ok (.iload_n 3, 1) := by decide +kernel
theorem dX3_add_46 : decode cX3_add 46 = .ok (.iastore, 1) := by decide +kernel
theorem dX3_add_47 : decode cX3_add 47 = .ok (.aload_n 0, 1) := by decide +kernel
theorem dX3_add_48 : decode cX3_add 48 = .ok (.getfield 22, 3) := by decide +kernel
theorem dX3_add_51 : decode cX3_add 51 = .ok (.aload_n 0, 1) := by decide +kernel
theorem dX3_add_52 : decode cX3_add 52 = .ok (.getfield 28, 3) := by decide +kernel
theorem dX3_add_55 : decode cX3_add 55 = .ok (.iload 4, 2) := by decide +kernel
theorem dX3_add_57 : decode cX3_add 57 = .ok (.iastore, 1) := by decide +kernel
theorem dX3_add_58 : decode cX3_add 58 = .ok (.aload_n 0, 1) := by decide +kernel
theorem dX3_add_59 : decode cX3_add 59 = .ok (.getfield 25, 3) := by decide +kernel
theorem dX3_add_62 : decode cX3_add 62 = .ok (.aload_n 0, 1) := by decide +kernel
theorem dX3_add_63 : decode cX3_add 63 = .ok (.getfield 28, 3) := by decide +kernel
theorem dX3_add_66 : decode cX3_add 66 = .ok (.iload 5, 2) := by decide +kernel
theorem dX3_add_68 : decode cX3_add 68 = .ok (.iastore, 1) := by decide +kernel
theorem dX3_add_69 : decode cX3_add 69 = .ok (.aload_n 0, 1) := by decide +kernel
theorem dX3_add_70 : decode cX3_add 70 = .ok (.getfield 28, 3) := by decide +kernel
theorem dX3_add_73 : decode cX3_add 73 = .ok (.ireturn, 1) := by decide +kernel
theorem dX3_kind_0 : decode cX3_kind 0 = .ok (.iload_n 1, 1) := by decide +kernel
theorem dX3_kind_1 : decode cX3_kind 1 = .ok (.iconst 1, 1) := by decide +kernel
theorem dX3_kind_2 : decode cX3_kind 2 = .ok (.if_icmp .lt 20, 3) := by decide +kernel
theorem dX3_kind_5 : decode cX3_kind 5 = .ok (.iload_n 1, 1) := by decide +kernel
theorem dX3_kind_6 : decode cX3_kind 6 = .ok (.aload_n 0, 1) := by decide +kernel
theorem dX3_kind_7 : decode cX3_kind 7 = .ok (.getfield 28, 3) := by decide +kernel
theorem dX3_kind_10 : decode cX3_kind 10 = .ok (.if_icmp .gt 12, 3) := by decide +kernel
theorem dX3_kind_13 : decode cX3_kind 13 = .ok (.aload_n 0, 1) := by decide +kernel
theorem dX3_kind_14 : decode cX3_kind 14 = .ok (.getfield 9, 3) := by decide +kernel
theorem dX3_kind_17 : decode cX3_kind 17 = .ok (.iload_n 1, 1) := by decide +kernel
theorem dX3_kind_18 : decode cX3_kind 18 = .ok (.caload, 1) := by decide +kernel
theorem dX3_kind_19 : decode cX3_kind 19 = .ok (.goto 5, 3) := by decide +kernel
theorem dX3_kind_22 : decode cX3_kind 22 = .ok (.bipush 32, 2) := by decide +kernel
theorem dX3_kind_24 : decode cX3_kind 24 = .ok (.ireturn, 1) := by decide +kernel
theorem dX3_slot_0 : decode cX3_slot 0 = .ok (.iload_n 1, 1) := by decide +kernel
theorem dX3_slot_1 : decode cX3_slot 1 = .ok (.iconst 1, 1) := by decide +kernel
theorem dX3_slot_2 : decode cX3_slot 2 = .ok (.if_icmp .lt 20, 3) := by decide +kernel
theorem dX3_slot_5 : decode cX3_slot 5 = .ok (.iload_n 1, 1) := by decide +kernel
theorem dX3_slot_6 : decode cX3_slot 6 = .ok (.aload_n 0, 1) := by decide +kernel
theorem dX3_slot_7 : decode cX3_slot 7 = .ok (.getfield 28, 3) := by decide +kernel
theorem dX3_slot_10 : decode cX3_slot 10 = .ok (.if_icmp .gt 12, 3) := by decide +kernel
theorem dX3_slot_13 : decode cX3_slot 13 = .ok (.aload_n 0, 1) := by decide +kernel
theorem dX3_slot_14 : decode cX3_slot 14 = .ok (.getfield 15, 3) := by decide +kernel
theorem dX3_slot_17 : decode cX3_slot 17 = .ok (.iload_n 1, 1) := by decide +kernel
theorem dX3_slot_18 : decode cX3_slot 18 = .ok (.iaload, 1) := by decide +kernel
theorem dX3_slot_19 : decode cX3_slot 19 = .ok (.goto 4, 3) := by decide +kernel
theorem dX3_slot_22 : decode cX3_slot 22 = .ok (.iconst (-1), 1) := by decide +kernel
theorem dX3_slot_23 : decode cX3_slot 23 = .ok (.ireturn, 1) := by decide +kernel
theorem dX3_replayInto_0 : decode cX3_replayInto 0 = .ok (.aload_n 1, 1) := by decide +kernel
theorem dX3_replayInto_1 : decode cX3_replayInto 1 = .ok (.invokevirtual 36, 3) := by decide +kernel
theorem dX3_replayInto_4 : decode cX3_replayInto 4 = .ok (.iconst 1, 1) := by decide +kernel
theorem dX3_replayInto_5 : decode cX3_replayInto 5 = .ok (.istore 4, 2) := by decide +kernel
theorem dX3_replayInto_7 : decode cX3_replayInto 7 = .ok (.iload 4, 2) := by decide +kernel
theorem dX3_replayInto_9 : decode cX3_replayInto 9 = .ok (.iload_n 3, 1) := by decide +kernel
theorem dX3_replayInto_10 : decode cX3_replayInto 10 = .ok (.if_icmp .gt 71, 3) := by decide +kernel
theorem dX3_replayInto_13 : decode cX3_replayInto 13 = .ok (.iload 4, 2) := by decide +kernel
theorem dX3_replayInto_15 : decode cX3_replayInto 15 = .ok (.aload_n 0, 1) := by decide +kernel
theorem dX3_replayInto_16 : decode cX3_replayInto 16 = .ok (.getfield 28, 3) := by decide +kernel
theorem dX3_replayInto_19 : decode cX3_replayInto 19 = .ok (.if_icmp .gt 62, 3) := by decide +kernel
theorem dX3_replayInto_22 : decode cX3_replayInto 22 = .ok (.aload_n 0, 1) := by decide +kernel
theorem dX3_replayInto_23 : decode cX3_replayInto 23 = .ok (.getfield 15, 3) := by decide +kernel
theorem dX3_replayInto_26 : decode cX3_replayInto 26 = .ok (.iload 4, 2) := by decide +kernel
theorem dX3_replayInto_28 : decode cX3_replayInto 28 = .ok (.iaload, 1) := by decide +kernel
theorem dX3_replayInto_29 : decode cX3_replayInto 29 = .ok (.iload_n 2, 1) := by decide +kernel
theorem dX3_replayInto_30 : decode cX3_replayInto 30 = .ok (.if_icmp .ne 45, 3) := by decide +kernel
theorem dX3_replayInto_33 : decode cX3_replayInto 33 = .ok (.aload_n 1, 1) := by decide +kernel
theorem dX3_replayInto_34 : decode cX3_replayInto 34 = .ok (.aload_n 0, 1) := by decide +kernel
theorem dX3_replayInto_35 : decode cX3_replayInto 35 = .ok (.getfield 22, 3) := by decide +kernel
theorem dX3_replayInto_38 : decode cX3_replayInto 38 = .ok (.iload 4, 2) := by decide +kernel
theorem dX3_replayInto_40 : decode cX3_replayInto 40 = .ok (.iaload, 1) := by decide +kernel
theorem dX3_replayInto_41 : decode cX3_replayInto 41 = .ok (.aload_n 0, 1) := by decide +kernel
theorem dX3_replayInto_42 : decode cX3_replayInto 42 = .ok (.getfield 25, 3) := by decide +kernel
theorem dX3_replayInto_45 : decode cX3_replayInto 45 = .ok (.iload 4, 2) := by decide +kernel
theorem dX3_replayInto_47 : decode cX3_replayInto 47 = .ok (.iaload, 1) := by decide +kernel
theorem dX3_replayInto_48 : decode cX3_replayInto 48 = .ok (.aload_n 0, 1) := by decide +kernel
theorem dX3_replayInto_49 : decode cX3_replayInto 49 = .ok (.getfield 9, 3) := by decide +kernel
theorem dX3_replayInto_52 : decode cX3_replayInto 52 = .ok (.iload 4, 2) := by decide +kernel
theorem dX3_replayInto_54 : decode cX3_replayInto 54 = .ok (.caload, 1) := by decide +kernel
theorem dX3_replayInto_55 : decode cX3_replayInto 55 = .ok (.bipush 114, 2) := by decide +kernel
theorem dX3_replayInto_57 : decode cX3_replayInto 57 = .ok (.if_icmp .eq 7, 3) := by decide +kernel
theorem dX3_replayInto_60 : decode cX3_replayInto 60 = .ok (.iconst 1, 1) := by decide +kernel
theorem dX3_replayInto_61 : decode cX3_replayInto 61 = .ok (.goto 4, 3) := by decide +kernel
theorem dX3_replayInto_64 : decode cX3_replayInto 64 = .ok (.iconst 0, 1) := by decide +kernel
theorem dX3_replayInto_65 : decode cX3_replayInto 65 = .ok (.aload_n 0, 1) := by decide +kernel
theorem dX3_replayInto_66 : decode cX3_replayInto 66 = .ok (.getfield 19, 3) := by decide +kernel
theorem dX3_replayInto_69 : decode cX3_replayInto 69 = .ok (.iload 4, 2) := by decide +kernel
theorem dX3_replayInto_71 : decode cX3_replayInto 71 = .ok (.iaload, 1) := by decide +kernel
theorem dX3_replayInto_72 : decode cX3_replayInto 72 = .ok (.invokevirtual 41, 3) := by decide +kernel
theorem dX3_replayInto_75 : decode cX3_replayInto 75 = .ok (.iinc 4 1, 3) := by decide +kernel
theorem dX3_replayInto_78 : decode cX3_replayInto 78 = .ok (.goto (-71), 3) := by decide +kernel
theorem dX3_replayInto_81 : decode cX3_replayInto 81 = .ok (.return_, 1) := by decide +kernel
theorem dX4_init_0 : decode cX4_init 0 = .ok (.aload_n 0, 1) := by decide +kernel
theorem dX4_init_1 : decode cX4_init 1 = .ok (.invokespecial 3, 3) := by decide +kernel
theorem dX4_init_4 : decode cX4_init 4 = .ok (.aload_n 0, 1) := by decide +kernel
theorem dX4_init_5 : decode cX4_init 5 = .ok (.bipush 100, 2) := by decide +kernel
theorem dX4_init_7 : decode cX4_init 7 = .ok (.newarray .int, 2) := by decide +kernel
theorem dX4_init_9 : decode cX4_init 9 = .ok (.putfield 9, 3) := by decide +kernel
theorem dX4_init_12 : decode cX4_init 12 = .ok (.aload_n 0, 1) := by decide +kernel
theorem dX4_init_13 : decode cX4_init 13 = .ok (.bipush 100, 2) := by decide +kernel
theorem dX4_init_15 : decode cX4_init 15 = .ok (.newarray .int, 2) := by decide +kernel
theorem dX4_init_17 : decode cX4_init 17 = .ok (.putfield 15, 3) := by decide +kernel
theorem dX4_init_20 : decode cX4_init 20 = .ok (.aload_n 0, 1) := by decide +kernel
theorem dX4_init_21 : decode cX4_init 21 = .ok (.iconst 0, 1) := by decide +kernel
theorem dX4_init_22 : decode cX4_init 22 = .ok (.putfield 18, 3) := by decide +kernel
theorem dX4_init_25 : decode cX4_init 25 = .ok (.return_, 1) := by decide +kernel
theorem dX4_list_0 : decode cX4_list 0 = .ok (.aload_n 0, 1) := by decide +kernel
theorem dX4_list_1 : decode cX4_list 1 = .ok (.iconst 0, 1) := by decide +kernel
theorem dX4_list_2 : decode cX4_list 2 = .ok (.putfield 18, 3) := by decide +kernel
theorem dX4_list_5 : decode cX4_list 5 = .ok (.iconst 0, 1) := by decide +kernel
theorem dX4_list_6 : decode cX4_list 6 = .ok (.istore_n 3, 1) := by decide +kernel
theorem dX4_list_7 : decode cX4_list 7 = .ok (.iload_n 3, 1) := by decide +kernel
theorem dX4_list_8 : decode cX4_list 8 = .ok (.bipush 100, 2) := by decide +kernel
theorem dX4_list_10 : decode cX4_list 10 = .ok (.if_icmp .ge 53, 3) := by decide +kernel
theorem dX4_list_13 : decode cX4_list 13 = .ok (.aload_n 1, 1) := by decide +kernel
theorem dX4_list_14 : decode cX4_list 14 = .ok (.iload_n 3, 1) := by decide +kernel
theorem dX4_list_15 : decode cX4_list 15 = .ok (.invokevirtual 22, 3) := by decide +kernel
theorem dX4_list_18 : decode cX4_list 18 = .ok (.ifCond .eq 18, 3) := by decide +kernel
theorem dX4_list_21 : decode cX4_list 21 = .ok (.aload_n 2, 1) := by decide +kernel
theorem dX4_list_22 : decode cX4_list 22 = .ok (.iload_n 3, 1) := by decide +kernel
theorem dX4_list_23 : decode cX4_list 23 = .ok (.invokevirtual 22, 3) := by decide +kernel
theorem dX4_list_26 : decode cX4_list 26 = .ok (.ifCond .eq 10, 3) := by decide +kernel
theorem dX4_list_29 : decode cX4_list 29 = .ok (.aload_n 0, 1) := by decide +kernel
theorem dX4_list_30 : decode cX4_list 30 = .ok (.invokevirtual 28, 3) := by decide +kernel
theorem dX4_list_33 : decode cX4_list 33 = .ok (.goto 24, 3) := by decide +kernel
theorem dX4_list_36 : decode cX4_list 36 = .ok (.aload_n 1, 1) := by decide +kernel
theorem dX4_list_37 : decode cX4_list 37 = .ok (.iload_n 3, 1) := by decide +kernel
theorem dX4_list_38 : decode cX4_list 38 = .ok (.invokevirtual 31, 3) := by decide +kernel
theorem dX4_list_41 : decode cX4_list 41 = .ok (.ifCond .eq 16, 3) := by decide +kernel
theorem dX4_list_44 : decode cX4_list 44 = .ok (.aload_n 2, 1) := by decide +kernel
theorem dX4_list_45 : decode cX4_list 45 = .ok (.iload_n 3, 1) := by decide +kernel
theorem dX4_list_46 : decode cX4_list 46 = .ok (.invokevirtual 31, 3) := by decide +kernel
theorem dX4_list_49 : decode cX4_list 49 = .ok (.ifCond .eq 8, 3) := by decide +kernel
theorem dX4_list_52 : decode cX4_list 52 = .ok (.aload_n 0, 1) := by decide +kernel
theorem dX4_list_53 : decode cX4_list 53 = .ok (.iload_n 3, 1) := by decide +kernel
theorem dX4_list_54 : decode cX4_list 54 = .ok (.invokevirtual 34, 3) := by decide +kernel
theorem dX4_list_57 : decode cX4_list 57 = .ok (.iinc 3 1, 3) := by decide +kernel
theorem dX4_list_60 : decode cX4_list 60 = .ok (.goto (-53), 3) := by decide +kernel
theorem dX4_list_63 : decode cX4_list 63 = .ok (.return_, 1) := by decide +kernel
theorem dX4_size_0 : decode cX4_size 0 = .ok (.aload_n 0, 1) := by decide +kernel
theorem dX4_size_1 : decode cX4_size 1 = .ok (.getfield 18, 3) := by decide +kernel
theorem dX4_size_4 : decode cX4_size 4 = .ok (.ireturn, 1) := by decide +kernel
theorem dX4_firstDay_0 : decode cX4_firstDay 0 = .ok (.iload_n 1, 1) := by decide +kernel
theorem dX4_firstDay_1 : decode cX4_firstDay 1 = .ok (.ifCond .lt 20, 3) := by decide +kernel
theorem dX4_firstDay_4 : decode cX4_firstDay 4 = .ok (.iload_n 1, 1) := by decide +kernel
theorem dX4_firstDay_5 : decode cX4_firstDay 5 = .ok (.aload_n 0, 1) := by decide +kernel
theorem dX4_firstDay_6 : decode cX4_firstDay 6 = .ok (.getfield 18, 3) := by decide +kernel
theorem dX4_firstDay_9 : decode cX4_firstDay 9 = .ok (.if_icmp .ge 12, 3) := by decide +kernel
theorem dX4_firstDay_12 : decode cX4_firstDay 12 = .ok (.aload_n 0, 1) := by decide +kernel
theorem dX4_firstDay_13 : decode cX4_firstDay 13 = .ok (.getfield 9, 3) := by decide +kernel
theorem dX4_firstDay_16 : decode cX4_firstDay 16 = .ok (.iload_n 1, 1) := by decide +kernel
theorem dX4_firstDay_17 : decode cX4_firstDay 17 = .ok (.iaload, 1) := by decide +kernel
theorem dX4_firstDay_18 : decode cX4_firstDay 18 = .ok (.goto 4, 3) := by decide +kernel
theorem dX4_firstDay_21 : decode cX4_firstDay 21 = .ok (.iconst (-1), 1) := by decide +kernel
theorem dX4_firstDay_22 : decode cX4_firstDay 22 = .ok (.ireturn, 1) := by decide +kernel
theorem dX4_dayAfter_0 : decode cX4_dayAfter 0 = .ok (.iload_n 1, 1) := by decide +kernel
theorem dX4_dayAfter_1 : decode cX4_dayAfter 1 = .ok (.ifCond .lt 20, 3) := by decide +kernel
theorem dX4_dayAfter_4 : decode cX4_dayAfter 4 = .ok (.iload_n 1, 1) := by decide +kernel
theorem dX4_dayAfter_5 : decode cX4_dayAfter 5 = .ok (.aload_n 0, 1) := by decide +kernel
theorem dX4_dayAfter_6 : decode cX4_dayAfter 6 = .ok (.getfield 18, 3) := by decide +kernel
theorem dX4_dayAfter_9 : decode cX4_dayAfter 9 = .ok (.if_icmp .ge 12, 3) := by decide +kernel
theorem dX4_dayAfter_12 : decode cX4_dayAfter 12 = .ok (.aload_n 0, 1) := by decide +kernel
theorem dX4_dayAfter_13 : decode cX4_dayAfter 13 = .ok (.getfield 15, 3) := by decide +kernel
theorem dX4_dayAfter_16 : decode cX4_dayAfter 16 = .ok (.iload_n 1, 1) := by decide +kernel
theorem dX4_dayAfter_17 : decode cX4_dayAfter 17 = .ok (.iaload, 1) := by decide +kernel
theorem dX4_dayAfter_18 : decode cX4_dayAfter 18 = .ok (.goto 4, 3) := by decide +kernel
theorem dX4_dayAfter_21 : decode cX4_dayAfter 21 = .ok (.iconst (-1), 1) := by decide +kernel
theorem dX4_dayAfter_22 : decode cX4_dayAfter 22 = .ok (.ireturn, 1) := by decide +kernel
theorem dX4_begin_0 : decode cX4_begin 0 = .ok (.aload_n 0, 1) := by decide +kernel
theorem dX4_begin_1 : decode cX4_begin 1 = .ok (.getfield 18, 3) := by decide +kernel
theorem dX4_begin_4 : decode cX4_begin 4 = .ok (.bipush 100, 2) := by decide +kernel
theorem dX4_begin_6 : decode cX4_begin 6 = .ok (.if_icmp .ge 35, 3) := by decide +kernel
theorem dX4_begin_9 : decode cX4_begin 9 = .ok (.aload_n 0, 1) := by decide +kernel
theorem dX4_begin_10 : decode cX4_begin 10 = .ok (.getfield 9, 3) := by decide +kernel
theorem dX4_begin_13 : decode cX4_begin 13 = .ok (.aload_n 0, 1) := by decide +kernel
theorem dX4_begin_14 : decode cX4_begin 14 = .ok (.getfield 18, 3) := by decide +kernel
theorem dX4_begin_17 : decode cX4_begin 17 = .ok (.iload_n 1, 1) := by decide +kernel
theorem dX4_begin_18 : decode cX4_begin 18 = .ok (.iastore, 1) := by decide +kernel
theorem dX4_begin_19 : decode cX4_begin 19 = .ok (.aload_n 0, 1) := by decide +kernel
theorem dX4_begin_20 : decode cX4_begin 20 = .ok (.getfield 15, 3) := by decide +kernel
theorem dX4_begin_23 : decode cX4_begin 23 = .ok (.aload_n 0, 1) := by decide +kernel
theorem dX4_begin_24 : decode cX4_begin 24 = .ok (.getfield 18, 3) := by decide +kernel
theorem dX4_begin_27 : decode cX4_begin 27 = .ok (.iload_n 1, 1) := by decide +kernel
theorem dX4_begin_28 : decode cX4_begin 28 = .ok (.iconst 1, 1) := by decide +kernel
theorem dX4_begin_29 : decode cX4_begin 29 = .ok (.iadd, 1) := by decide +kernel
theorem dX4_begin_30 : decode cX4_begin 30 = .ok (.iastore, 1) := by decide +kernel
theorem dX4_begin_31 : decode cX4_begin 31 = .ok (.aload_n 0, 1) := by decide +kernel
theorem dX4_begin_32 : decode cX4_begin 32 = .ok (.dup, 1) := by decide +kernel
theorem dX4_begin_33 : decode cX4_begin 33 = .ok (.getfield 18, 3) := by decide +kernel
theorem dX4_begin_36 : decode cX4_begin 36 = .ok (.iconst 1, 1) := by decide +kernel
theorem dX4_begin_37 : decode cX4_begin 37 = .ok (.iadd, 1) := by decide +kernel
theorem dX4_begin_38 : decode cX4_begin 38 = .ok (.putfield 18, 3) := by decide +kernel
theorem dX4_begin_41 : decode cX4_begin 41 = .ok (.return_, 1) := by decide +kernel
theorem dX4_lengthenLast_0 : decode cX4_lengthenLast 0 = .ok (.aload_n 0, 1) := by decide +kernel
theorem dX4_lengthenLast_1 : decode cX4_lengthenLast 1 = .ok (.getfield 18, 3) := by decide +kernel
theorem dX4_lengthenLast_4 : decode cX4_lengthenLast 4 = .ok (.ifCond .le 18, 3) := by decide +kernel
theorem dX4_lengthenLast_7 : decode cX4_lengthenLast 7 = .ok (.aload_n 0, 1) := by decide +kernel
theorem dX4_lengthenLast_8 : decode cX4_lengthenLast 8 = .ok (.getfield 15, 3) := by decide +kernel
theorem dX4_lengthenLast_11 : decode cX4_lengthenLast 11 = .ok (.aload_n 0, 1) := by decide +kernel
theorem dX4_lengthenLast_12 : decode cX4_lengthenLast 12 = .ok (.getfield 18, 3) := by decide +kernel
theorem dX4_lengthenLast_15 : decode cX4_lengthenLast 15 = .ok (.iconst 1, 1) := by decide +kernel
theorem dX4_lengthenLast_16 : decode cX4_lengthenLast 16 = .ok (.isub, 1) := by decide +kernel
theorem dX4_lengthenLast_17 : decode cX4_lengthenLast 17 = .ok (.dup2, 1) := by decide +kernel
theorem dX4_lengthenLast_18 : decode cX4_lengthenLast 18 = .ok (.iaload, 1) := by decide +kernel
theorem dX4_lengthenLast_19 : decode cX4_lengthenLast 19 = .ok (.iconst 1, 1) := by decide +kernel
theorem dX4_lengthenLast_20 : decode cX4_lengthenLast 20 = .ok (.iadd, 1) := by decide +kernel
theorem dX4_lengthenLast_21 : decode cX4_lengthenLast 21 = .ok (.iastore, 1) := by decide +kernel
theorem dX4_lengthenLast_22 : decode cX4_lengthenLast 22 = .ok (.return_, 1) := by decide +kernel
theorem dX5_init_0 : decode cX5_init 0 = .ok (.aload_n 0, 1) := by decide +kernel
theorem dX5_init_1 : decode cX5_init 1 = .ok (.invokespecial 3, 3) := by decide +kernel
theorem dX5_init_4 : decode cX5_init 4 = .ok (.aload_n 0, 1) := by decide +kernel
theorem dX5_init_5 : decode cX5_init 5 = .ok (.bipush 61, 2) := by decide +kernel
theorem dX5_init_7 : decode cX5_init 7 = .ok (.newarray .int, 2) := by decide +kernel
theorem dX5_init_9 : decode cX5_init 9 = .ok (.putfield 9, 3) := by decide +kernel
theorem dX5_init_12 : decode cX5_init 12 = .ok (.aload_n 0, 1) := by decide +kernel
theorem dX5_init_13 : decode cX5_init 13 = .ok (.bipush 61, 2) := by decide +kernel
theorem dX5_init_15 : decode cX5_init 15 = .ok (.newarray .boolean, 2) := by decide +kernel
theorem dX5_init_17 : decode cX5_init 17 = .ok (.putfield 15, 3) := by decide +kernel
theorem dX5_init_20 : decode cX5_init 20 = .ok (.aload_n 0, 1) := by decide +kernel
theorem dX5_init_21 : decode cX5_init 21 = .ok (.bipush 61, 2) := by decide +kernel
theorem dX5_init_23 : decode cX5_init 23 = .ok (.newarray .int, 2) := by decide +kernel
theorem dX5_init_25 : decode cX5_init 25 = .ok (.putfield 19, 3) := by decide +kernel
theorem dX5_init_28 : decode cX5_init 28 = .ok (.aload_n 0, 1) := by decide +kernel
theorem dX5_init_29 : decode cX5_init 29 = .ok (.iconst 0, 1) := by decide +kernel
theorem dX5_init_30 : decode cX5_init 30 = .ok (.putfield 22, 3) := by decide +kernel
theorem dX5_init_33 : decode cX5_init 33 = .ok (.return_, 1) := by decide +kernel
theorem dX5_list_0 : decode cX5_list 0 = .ok (.aload_n 0, 1) := by decide +kernel
theorem dX5_list_1 : decode cX5_list 1 = .ok (.iconst 0, 1) := by decide +kernel
theorem dX5_list_2 : decode cX5_list 2 = .ok (.putfield 22, 3) := by decide +kernel
theorem dX5_list_5 : decode cX5_list 5 = .ok (.aload_n 1, 1) := by decide +kernel
theorem dX5_list_6 : decode cX5_list 6 = .ok (.invokevirtual 26, 3) := by decide +kernel
theorem dX5_list_9 : decode cX5_list 9 = .ok (.istore 5, 2) := by decide +kernel
theorem dX5_list_11 : decode cX5_list 11 = .ok (.iload 5, 2) := by decide +kernel
theorem dX5_list_13 : decode cX5_list 13 = .ok (.iload 4, 2) := by decide +kernel
theorem dX5_list_15 : decode cX5_list 15 = .ok (.if_icmp .gt 96, 3) := by decide +kernel
theorem dX5_list_18 : decode cX5_list 18 = .ok (.aload_n 1, 1) := by decide +kernel
theorem dX5_list_19 : decode cX5_list 19 = .ok (.iload_n 2, 1) := by decide +kernel
theorem dX5_list_20 : decode cX5_list 20 = .ok (.iload_n 3, 1) := by decide +kernel
theorem dX5_list_21 : decode cX5_list 21 = .ok (.iload 5, 2) := by decide +kernel
theorem dX5_list_23 : decode cX5_list 23 = .ok (.invokevirtual 32, 3) := by decide +kernel
theorem dX5_list_26 : decode cX5_list 26 = .ok (.istore 6, 2) := by decide +kernel
theorem dX5_list_28 : decode cX5_list 28 = .ok (.iload 6, 2) := by decide +kernel
theorem dX5_list_30 : decode cX5_list 30 = .ok (.iconst (-1), 1) := by decide +kernel
theorem dX5_list_31 : decode cX5_list 31 = .ok (.if_icmp .eq 7, 3) := by decide +kernel
theorem dX5_list_34 : decode cX5_list 34 = .ok (.iconst 1, 1) := by decide +kernel
theorem dX5_list_35 : decode cX5_list 35 = .ok (.goto 4, 3) := by decide +kernel
theorem dX5_list_38 : decode cX5_list 38 = .ok (.iconst 0, 1) := by decide +kernel
theorem dX5_list_39 : decode cX5_list 39 = .ok (.istore 7, 2) := by decide +kernel
theorem dX5_list_41 : decode cX5_list 41 = .ok (.iload 7, 2) := by decide +kernel
theorem dX5_list_43 : decode cX5_list 43 = .ok (.ifCond .eq 12, 3) := by decide +kernel
theorem dX5_list_46 : decode cX5_list 46 = .ok (.aload_n 1, 1) := by decide +kernel
theorem dX5_list_47 : decode cX5_list 47 = .ok (.iload 6, 2) := by decide +kernel
theorem dX5_list_49 : decode cX5_list 49 = .ok (.invokevirtual 36, 3) := by decide +kernel
theorem dX5_list_52 : decode cX5_list 52 = .ok (.goto 4, 3) := by decide +kernel
theorem dX5_list_55 : decode cX5_list 55 = .ok (.iconst 0, 1) := by decide +kernel
theorem dX5_list_56 : decode cX5_list 56 = .ok (.istore 8, 2) := by decide +kernel
theorem dX5_list_58 : decode cX5_list 58 = .ok (.aload_n 0, 1) := by decide +kernel
theorem dX5_list_59 : decode cX5_list 59 = .ok (.getfield 22, 3) := by decide +kernel
theorem dX5_list_62 : decode cX5_list 62 = .ok (.ifCond .eq 33, 3) := by decide +kernel
theorem dX5_list_65 : decode cX5_list 65 = .ok (.aload_n 0, 1) := by decide +kernel
theorem dX5_list_66 : decode cX5_list 66 = .ok (.aload_n 0, 1) := by decide +kernel
theorem dX5_list_67 : decode cX5_list 67 = .ok (.getfield 22, 3) := by decide +kernel
theorem dX5_list_70 : decode cX5_list 70 = .ok (.iconst 1, 1) := by decide +kernel
theorem dX5_list_71 : decode cX5_list 71 = .ok (.isub, 1) := by decide +kernel
theorem dX5_list_72 : decode cX5_list 72 = .ok (.invokevirtual 40, 3) := by decide +kernel
theorem dX5_list_75 : decode cX5_list 75 = .ok (.iload 7, 2) := by decide +kernel
theorem dX5_list_77 : decode cX5_list 77 = .ok (.if_icmp .ne 18, 3) := by decide +kernel
theorem dX5_list_80 : decode cX5_list 80 = .ok (.aload_n 0, 1) := by decide +kernel
theorem dX5_list_81 : decode cX5_list 81 = .ok (.aload_n 0, 1) := by decide +kernel
theorem dX5_list_82 : decode cX5_list 82 = .ok (.getfield 22, 3) := by decide +kernel
theorem dX5_list_85 : decode cX5_list 85 = .ok (.iconst 1, 1) := by decide +kernel
theorem dX5_list_86 : decode cX5_list 86 = .ok (.isub, 1) := by decide +kernel
theorem dX5_list_87 : decode cX5_list 87 = .ok (.invokevirtual 44, 3) := by decide +kernel
theorem dX5_list_90 : decode cX5_list 90 = .ok (.iload 8, 2) := by decide +kernel
theorem dX5_list_92 : decode cX5_list 92 = .ok (.if_icmp .eq 13, 3) := by decide +kernel
theorem dX5_list_95 : decode cX5_list 95 = .ok (.aload_n 0, 1) := by decide +kernel
theorem dX5_list_96 : decode cX5_list 96 = .ok (.iload 5, 2) := by decide +kernel
theorem dX5_list_98 : decode cX5_list 98 = .ok (.iload 7, 2) := by decide +kernel
theorem dX5_list_100 : decode cX5_list 100 = .ok (.iload 8, 2) := by decide +kernel
theorem dX5_list_102 : decode cX5_list 102 = .ok (.invokevirtual 45, 3) := by decide +kernel
theorem dX5_list_105 : decode cX5_list 105 = .ok (.iinc 5 1, 3) := by decide +kernel
theorem dX5_list_108 : decode cX5_list 108 = .ok (.goto (-97), 3) := by decide +kernel
theorem dX5_list_111 : decode cX5_list 111 = .ok (.return_, 1) := by decide +kernel
theorem dX5_size_0 : decode cX5_size 0 = .ok (.aload_n 0, 1) := by decide +kernel
theorem dX5_size_1 : decode cX5_size 1 = .ok (.getfield 22, 3) := by decide +kernel
theorem dX5_size_4 : decode cX5_size 4 = .ok (.ireturn, 1) := by decide +kernel
theorem dX5_firstTick_0 : decode cX5_firstTick 0 = .ok (.iload_n 1, 1) := by decide +kernel
theorem dX5_firstTick_1 : decode cX5_firstTick 1 = .ok (.ifCond .lt 20, 3) := by decide +kernel
theorem dX5_firstTick_4 : decode cX5_firstTick 4 = .ok (.iload_n 1, 1) := by decide +kernel
theorem dX5_firstTick_5 : decode cX5_firstTick 5 = .ok (.aload_n 0, 1) := by decide +kernel
theorem dX5_firstTick_6 : decode cX5_firstTick 6 = .ok (.getfield 22, 3) := by decide +kernel
theorem dX5_firstTick_9 : decode cX5_firstTick 9 = .ok (.if_icmp .ge 12, 3) := by decide +kernel
theorem dX5_firstTick_12 : decode cX5_firstTick 12 = .ok (.aload_n 0, 1) := by decide +kernel
theorem dX5_firstTick_13 : decode cX5_firstTick 13 = .ok (.getfield 9, 3) := by decide +kernel
theorem dX5_firstTick_16 : decode cX5_firstTick 16 = .ok (.iload_n 1, 1) := by decide +kernel
theorem dX5_firstTick_17 : decode cX5_firstTick 17 = .ok (.iaload, 1) := by decide +kernel
theorem dX5_firstTick_18 : decode cX5_firstTick 18 = .ok (.goto 4, 3) := by decide +kernel
theorem dX5_firstTick_21 : decode cX5_firstTick 21 = .ok (.iconst (-1), 1) := by decide +kernel
theorem dX5_firstTick_22 : decode cX5_firstTick 22 = .ok (.ireturn, 1) := by decide +kernel
theorem dX5_has_0 : decode cX5_has 0 = .ok (.iload_n 1, 1) := by decide +kernel
theorem dX5_has_1 : decode cX5_has 1 = .ok (.ifCond .lt 24, 3) := by decide +kernel
theorem dX5_has_4 : decode cX5_has 4 = .ok (.iload_n 1, 1) := by decide +kernel
theorem dX5_has_5 : decode cX5_has 5 = .ok (.aload_n 0, 1) := by decide +kernel
theorem dX5_has_6 : decode cX5_has 6 = .ok (.getfield 22, 3) := by decide +kernel
theorem dX5_has_9 : decode cX5_has 9 = .ok (.if_icmp .ge 16, 3) := by decide +kernel
theorem dX5_has_12 : decode cX5_has 12 = .ok (.aload_n 0, 1) := by decide +kernel
theorem dX5_has_13 : decode cX5_has 13 = .ok (.getfield 15, 3) := by decide +kernel
theorem dX5_has_16 : decode cX5_has 16 = .ok (.iload_n 1, 1) := by decide +kernel
theorem dX5_has_17 : decode cX5_has 17 = .ok (.baload, 1) := by decide +kernel
theorem dX5_has_18 : decode cX5_has 18 = .ok (.ifCond .eq 7, 3) := by decide +kernel
theorem dX5_has_21 : decode cX5_has 21 = .ok (.iconst 1, 1) := by decide +kernel
theorem dX5_has_22 : decode cX5_has 22 = .ok (.goto 4, 3) := by decide +kernel
theorem dX5_has_25 : decode cX5_has 25 = .ok (.iconst 0, 1) := by decide +kernel
theorem dX5_has_26 : decode cX5_has 26 = .ok (.ireturn, 1) := by decide +kernel
theorem dX5_value_0 : decode cX5_value 0 = .ok (.aload_n 0, 1) := by decide +kernel
theorem dX5_value_1 : decode cX5_value 1 = .ok (.iload_n 1, 1) := by decide +kernel
theorem dX5_value_2 : decode cX5_value 2 = .ok (.invokevirtual 40, 3) := by decide +kernel
theorem dX5_value_5 : decode cX5_value 5 = .ok (.ifCond .eq 12, 3) := by decide +kernel
theorem dX5_value_8 : decode cX5_value 8 = .ok (.aload_n 0, 1) := by decide +kernel
theorem dX5_value_9 : decode cX5_value 9 = .ok (.getfield 19, 3) := by decide +kernel
theorem dX5_value_12 : decode cX5_value 12 = .ok (.iload_n 1, 1) := by decide +kernel
theorem dX5_value_13 : decode cX5_value 13 = .ok (.iaload, 1) := by decide +kernel
theorem dX5_value_14 : decode cX5_value 14 = .ok (.goto 4, 3) := by decide +kernel
theorem dX5_value_17 : decode cX5_value 17 = .ok (.iconst 0, 1) := by decide +kernel
theorem dX5_value_18 : decode cX5_value 18 = .ok (.ireturn, 1) := by decide +kernel
theorem dX5_begin_0 : decode cX5_begin 0 = .ok (.aload_n 0, 1) := by decide +kernel
theorem dX5_begin_1 : decode cX5_begin 1 = .ok (.getfield 22, 3) := by decide +kernel
theorem dX5_begin_4 : decode cX5_begin 4 = .ok (.bipush 61, 2) := by decide +kernel
theorem dX5_begin_6 : decode cX5_begin 6 = .ok (.if_icmp .ge 43, 3) := by decide +kernel
theorem dX5_begin_9 : decode cX5_begin 9 = .ok (.aload_n 0, 1) := by decide +kernel
theorem dX5_begin_10 : decode cX5_begin 10 = .ok (.getfield 9, 3) := by decide +kernel
theorem dX5_begin_13 : decode cX5_begin 13 = .ok (.aload_n 0, 1) := by decide +kernel
theorem dX5_begin_14 : decode cX5_begin 14 = .ok (.getfield 22, 3) := by decide +kernel
theorem dX5_begin_17 : decode cX5_begin 17 = .ok (.iload_n 1, 1) := by decide +kernel
theorem dX5_begin_18 : decode cX5_begin 18 = .ok (.iastore, 1) := by decide +kernel
theorem dX5_begin_19 : decode cX5_begin 19 = .ok (.aload_n 0, 1) := by decide +kernel
theorem dX5_begin_20 : decode cX5_begin 20 = .ok (.getfield 15, 3) := by decide +kernel
theorem dX5_begin_23 : decode cX5_begin 23 = .ok (.aload_n 0, 1) := by decide +kernel
theorem dX5_begin_24 : decode cX5_begin 24 = .ok (.getfield 22, 3) := by decide +kernel
theorem dX5_begin_27 : decode cX5_begin 27 = .ok (.iload_n 2, 1) := by decide +kernel
theorem dX5_begin_28 : decode cX5_begin 28 = .ok (.bastore, 1) := by decide +kernel
theorem dX5_begin_29 : decode cX5_begin 29 = .ok (.aload_n 0, 1) := by decide +kernel
theorem dX5_begin_30 : decode cX5_begin 30 = .ok (.getfield 19, 3) := by decide +kernel
theorem dX5_begin_33 : decode cX5_begin 33 = .ok (.aload_n 0, 1) := by decide +kernel
theorem dX5_begin_34 : decode cX5_begin 34 = .ok (.getfield 22, 3) := by decide +kernel
theorem dX5_begin_37 : decode cX5_begin 37 = .ok (.iload_n 3, 1) := by decide +kernel
theorem dX5_begin_38 : decode cX5_begin 38 = .ok (.iastore, 1) := by decide +kernel
theorem dX5_begin_39 : decode cX5_begin 39 = .ok (.aload_n 0, 1) := by decide +kernel
theorem dX5_begin_40 : decode cX5_begin 40 = .ok (.dup, 1) := by decide +kernel
theorem dX5_begin_41 : decode cX5_begin 41 = .ok (.getfield 22, 3) := by decide +kernel
theorem dX5_begin_44 : decode cX5_begin 44 = .ok (.iconst 1, 1) := by decide +kernel
theorem dX5_begin_45 : decode cX5_begin 45 = .ok (.iadd, 1) := by decide +kernel
theorem dX5_begin_46 : decode cX5_begin 46 = .ok (.putfield 22, 3) := by decide +kernel
theorem dX5_begin_49 : decode cX5_begin 49 = .ok (.return_, 1) := by decide +kernel
theorem dX6_init_0 : decode cX6_init 0 = .ok (.aload_n 0, 1) := by decide +kernel
theorem dX6_init_1 : decode cX6_init 1 = .ok (.invokespecial 3, 3) := by decide +kernel
theorem dX6_init_4 : decode cX6_init 4 = .ok (.aload_n 0, 1) := by decide +kernel
theorem dX6_init_5 : decode cX6_init 5 = .ok (.new 9, 3) := by decide +kernel
theorem dX6_init_8 : decode cX6_init 8 = .ok (.dup, 1) := by decide +kernel
theorem dX6_init_9 : decode cX6_init 9 = .ok (.invokespecial 11, 3) := by decide +kernel
theorem dX6_init_12 : decode cX6_init 12 = .ok (.putfield 12, 3) := by decide +kernel
theorem dX6_init_15 : decode cX6_init 15 = .ok (.aload_n 0, 1) := by decide +kernel
theorem dX6_init_16 : decode cX6_init 16 = .ok (.new 16, 3) := by decide +kernel
theorem dX6_init_19 : decode cX6_init 19 = .ok (.dup, 1) := by decide +kernel
theorem dX6_init_20 : decode cX6_init 20 = .ok (.invokespecial 18, 3) := by decide +kernel
theorem dX6_init_23 : decode cX6_init 23 = .ok (.putfield 19, 3) := by decide +kernel
theorem dX6_init_26 : decode cX6_init 26 = .ok (.aload_n 0, 1) := by decide +kernel
theorem dX6_init_27 : decode cX6_init 27 = .ok (.new 23, 3) := by decide +kernel
theorem dX6_init_30 : decode cX6_init 30 = .ok (.dup, 1) := by decide +kernel
theorem dX6_init_31 : decode cX6_init 31 = .ok (.invokespecial 25, 3) := by decide +kernel
theorem dX6_init_34 : decode cX6_init 34 = .ok (.putfield 26, 3) := by decide +kernel
theorem dX6_init_37 : decode cX6_init 37 = .ok (.aload_n 0, 1) := by decide +kernel
theorem dX6_init_38 : decode cX6_init 38 = .ok (.iconst 0, 1) := by decide +kernel
theorem dX6_init_39 : decode cX6_init 39 = .ok (.putfield 30, 3) := by decide +kernel
theorem dX6_init_42 : decode cX6_init 42 = .ok (.aload_n 0, 1) := by decide +kernel
theorem dX6_init_43 : decode cX6_init 43 = .ok (.new 34, 3) := by decide +kernel
theorem dX6_init_46 : decode cX6_init 46 = .ok (.dup, 1) := by decide +kernel
theorem dX6_init_47 : decode cX6_init 47 = .ok (.invokespecial 36, 3) := by decide +kernel
theorem dX6_init_50 : decode cX6_init 50 = .ok (.putfield 37, 3) := by decide +kernel
theorem dX6_init_53 : decode cX6_init 53 = .ok (.aload_n 0, 1) := by decide +kernel
theorem dX6_init_54 : decode cX6_init 54 = .ok (.new 34, 3) := by decide +kernel
theorem dX6_init_57 : decode cX6_init 57 = .ok (.dup, 1) := by decide +kernel
theorem dX6_init_58 : decode cX6_init 58 = .ok (.invokespecial 36, 3) := by decide +kernel
theorem dX6_init_61 : decode cX6_init 61 = .ok (.putfield 41, 3) := by decide +kernel
theorem dX6_init_64 : decode cX6_init 64 = .ok (.aload_n 0, 1) := by decide +kernel
theorem dX6_init_65 : decode cX6_init 65 = .ok (.new 44, 3) := by decide +kernel
theorem dX6_init_68 : decode cX6_init 68 = .ok (.dup, 1) := by decide +kernel
theorem dX6_init_69 : decode cX6_init 69 = .ok (.invokespecial 46, 3) := by decide +kernel
theorem dX6_init_72 : decode cX6_init 72 = .ok (.putfield 47, 3) := by decide +kernel
theorem dX6_init_75 : decode cX6_init 75 = .ok (.aload_n 0, 1) := by decide +kernel
theorem dX6_init_76 : decode cX6_init 76 = .ok (.new 51, 3) := by decide +kernel
theorem dX6_init_79 : decode cX6_init 79 = .ok (.dup, 1) := by decide +kernel
theorem dX6_init_80 : decode cX6_init 80 = .ok (.invokespecial 53, 3) := by decide +kernel
theorem dX6_init_83 : decode cX6_init 83 = .ok (.putfield 54, 3) := by decide +kernel
theorem dX6_init_86 : decode cX6_init 86 = .ok (.return_, 1) := by decide +kernel
theorem dX6_addEntity_0 : decode cX6_addEntity 0 = .ok (.aload_n 0, 1) := by decide +kernel
theorem dX6_addEntity_1 : decode cX6_addEntity 1 = .ok (.getfield 30, 3) := by decide +kernel
theorem dX6_addEntity_4 : decode cX6_addEntity 4 = .ok (.bipush 6, 2) := by decide +kernel
theorem dX6_addEntity_6 : decode cX6_addEntity 6 = .ok (.if_icmp .lt 13, 3) := by decide +kernel
theorem dX6_addEntity_9 : decode cX6_addEntity 9 = .ok (.new 58, 3) := by decide +kernel
theorem dX6_addEntity_12 : decode cX6_addEntity 12 = .ok (.dup, 1) := by decide +kernel
theorem dX6_addEntity_13 : decode cX6_addEntity 13 = .ok (.ldc 60, 2) := by decide +kernel
theorem dX6_addEntity_15 : decode cX6_addEntity 15 = .ok (.invokespecial 62, 3) := by decide +kernel
theorem dX6_addEntity_18 : decode cX6_addEntity 18 = .ok (.athrow, 1) := by decide +kernel
theorem dX6_addEntity_19 : decode cX6_addEntity 19 = .ok (.aload_n 0, 1) := by decide +kernel
theorem dX6_addEntity_20 : decode cX6_addEntity 20 = .ok (.dup, 1) := by decide +kernel
theorem dX6_addEntity_21 : decode cX6_addEntity 21 = .ok (.getfield 30, 3) := by decide +kernel
theorem dX6_addEntity_24 : decode cX6_addEntity 24 = .ok (.iconst 1, 1) := by decide +kernel
theorem dX6_addEntity_25 : decode cX6_addEntity 25 = .ok (.iadd, 1) := by decide +kernel
theorem dX6_addEntity_26 : decode cX6_addEntity 26 = .ok (.putfield 30, 3) := by decide +kernel
theorem dX6_addEntity_29 : decode cX6_addEntity 29 = .ok (.aload_n 0, 1) := by decide +kernel
theorem dX6_addEntity_30 : decode cX6_addEntity 30 = .ok (.getfield 30, 3) := by decide +kernel
theorem dX6_addEntity_33 : decode cX6_addEntity 33 = .ok (.iconst 1, 1) := by decide +kernel
theorem dX6_addEntity_34 : decode cX6_addEntity 34 = .ok (.isub, 1) := by decide +kernel
theorem dX6_addEntity_35 : decode cX6_addEntity 35 = .ok (.ireturn, 1) := by decide +kernel
theorem dX6_entityCount_0 : decode cX6_entityCount 0 = .ok (.aload_n 0, 1) := by decide +kernel
theorem dX6_entityCount_1 : decode cX6_entityCount 1 = .ok (.getfield 30, 3) := by decide +kernel
theorem dX6_entityCount_4 : decode cX6_entityCount 4 = .ok (.ireturn, 1) := by decide +kernel
theorem dX6_tell_0 : decode cX6_tell 0 = .ok (.aload_n 0, 1) := by decide +kernel
theorem dX6_tell_1 : decode cX6_tell 1 = .ok (.iload_n 1, 1) := by decide +kernel
theorem dX6_tell_2 : decode cX6_tell 2 = .ok (.iload_n 2, 1) := by decide +kernel
theorem dX6_tell_3 : decode cX6_tell 3 = .ok (.invokevirtual 65, 3) := by decide +kernel
theorem dX6_tell_6 : decode cX6_tell 6 = .ok (.aload_n 0, 1) := by decide +kernel
theorem dX6_tell_7 : decode cX6_tell 7 = .ok (.iload 4, 2) := by decide +kernel
theorem dX6_tell_9 : decode cX6_tell 9 = .ok (.iload 5, 2) := by decide +kernel
theorem dX6_tell_11 : decode cX6_tell 11 = .ok (.invokevirtual 69, 3) := by decide +kernel
theorem dX6_tell_14 : decode cX6_tell 14 = .ok (.aload_n 0, 1) := by decide +kernel
theorem dX6_tell_15 : decode cX6_tell 15 = .ok (.invokevirtual 72, 3) := by decide +kernel
theorem dX6_tell_18 : decode cX6_tell 18 = .ok (.aload_n 0, 1) := by decide +kernel
theorem dX6_tell_19 : decode cX6_tell 19 = .ok (.bipush 116, 2) := by decide +kernel
theorem dX6_tell_21 : decode cX6_tell 21 = .ok (.iload_n 1, 1) := by decide +kernel
theorem dX6_tell_22 : decode cX6_tell 22 = .ok (.iload_n 2, 1) := by decide +kernel
theorem dX6_tell_23 : decode cX6_tell 23 = .ok (.invokestatic 75, 3) := by decide +kernel
theorem dX6_tell_26 : decode cX6_tell 26 = .ok (.iload_n 3, 1) := by decide +kernel
theorem dX6_tell_27 : decode cX6_tell 27 = .ok (.iload 4, 2) := by decide +kernel
theorem dX6_tell_29 : decode cX6_tell 29 = .ok (.iload 5, 2) := by decide +kernel
theorem dX6_tell_31 : decode cX6_tell 31 = .ok (.invokevirtual 79, 3) := by decide +kernel
theorem dX6_tell_34 : decode cX6_tell 34 = .ok (.ireturn, 1) := by decide +kernel
theorem dX6_retract_0 : decode cX6_retract 0 = .ok (.aload_n 0, 1) := by decide +kernel
theorem dX6_retract_1 : decode cX6_retract 1 = .ok (.iload_n 1, 1) := by decide +kernel
theorem dX6_retract_2 : decode cX6_retract 2 = .ok (.iload_n 2, 1) := by decide +kernel
theorem dX6_retract_3 : decode cX6_retract 3 = .ok (.invokevirtual 65, 3) := by decide +kernel
theorem dX6_retract_6 : decode cX6_retract 6 = .ok (.aload_n 0, 1) := by decide +kernel
theorem dX6_retract_7 : decode cX6_retract 7 = .ok (.iload_n 3, 1) := by decide +kernel
theorem dX6_retract_8 : decode cX6_retract 8 = .ok (.iload 4, 2) := by decide +kernel
theorem dX6_retract_10 : decode cX6_retract 10 = .ok (.invokevirtual 69, 3) := by decide +kernel
theorem dX6_retract_13 : decode cX6_retract 13 = .ok (.iload_n 1, 1) := by decide +kernel
theorem dX6_retract_14 : decode cX6_retract 14 = .ok (.iload_n 2, 1) := by decide +kernel
theorem dX6_retract_15 : decode cX6_retract 15 = .ok (.invokestatic 75, 3) := by decide +kernel
theorem dX6_retract_18 : decode cX6_retract 18 = .ok (.istore 5, 2) := by decide +kernel
theorem dX6_retract_20 : decode cX6_retract 20 = .ok (.aload_n 0, 1) := by decide +kernel
theorem dX6_retract_21 : decode cX6_retract 21 = .ok (.getfield 19, 3) := by decide +kernel
theorem dX6_retract_24 : decode cX6_retract 24 = .ok (.iload 5, 2) := by decide +kernel
theorem dX6_retract_26 : decode cX6_retract 26 = .ok (.iload_n 3, 1) := by decide +kernel
theorem dX6_retract_27 : decode cX6_retract 27 = .ok (.iload 4, 2) := by decide +kernel
theorem dX6_retract_29 : decode cX6_retract 29 = .ok (.aload_n 0, 1) := by decide +kernel
theorem dX6_retract_30 : decode cX6_retract 30 = .ok (.getfield 12, 3) := by decide +kernel
theorem dX6_retract_33 : decode cX6_retract 33 = .ok (.invokevirtual 83, 3) := by decide +kernel
theorem dX6_retract_36 : decode cX6_retract 36 = .ok (.invokevirtual 87, 3) := by decide +kernel
theorem dX6_retract_39 : decode cX6_retract 39 = .ok (.istore 6, 2) := by decide +kernel
theorem dX6_retract_41 : decode cX6_retract 41 = .ok (.iload 6, 2) := by decide +kernel
theorem dX6_retract_43 : decode cX6_retract 43 = .ok (.ifCond .ne 13, 3) := by decide +kernel
theorem dX6_retract_46 : decode cX6_retract 46 = .ok (.new 91, 3) := by decide +kernel
theorem dX6_retract_49 : decode cX6_retract 49 = .ok (.dup, 1) := by decide +kernel
theorem dX6_retract_50 : decode cX6_retract 50 = .ok (.ldc 93, 2) := by decide +kernel
theorem dX6_retract_52 : decode cX6_retract 52 = .ok (.invokespecial 95, 3) := by decide +kernel
theorem dX6_retract_55 : decode cX6_retract 55 = .ok (.athrow, 1) := by decide +kernel
theorem dX6_retract_56 : decode cX6_retract 56 = .ok (.aload_n 0, 1) := by decide +kernel
theorem dX6_retract_57 : decode cX6_retract 57 = .ok (.invokevirtual 72, 3) := by decide +kernel
theorem dX6_retract_60 : decode cX6_retract 60 = .ok (.aload_n 0, 1) := by decide +kernel
theorem dX6_retract_61 : decode cX6_retract 61 = .ok (.getfield 12, 3) := by decide +kernel
theorem dX6_retract_64 : decode cX6_retract 64 = .ok (.bipush 114, 2) := by decide +kernel
theorem dX6_retract_66 : decode cX6_retract 66 = .ok (.iload 5, 2) := by decide +kernel
theorem dX6_retract_68 : decode cX6_retract 68 = .ok (.iconst 0, 1) := by decide +kernel
theorem dX6_retract_69 : decode cX6_retract 69 = .ok (.iload_n 3, 1) := by decide +kernel
theorem dX6_retract_70 : decode cX6_retract 70 = .ok (.iload 4, 2) := by decide +kernel
theorem dX6_retract_72 : decode cX6_retract 72 = .ok (.invokevirtual 96, 3) := by decide +kernel
theorem dX6_retract_75 : decode cX6_retract 75 = .ok (.istore 7, 2) := by decide +kernel
theorem dX6_retract_77 : decode cX6_retract 77 = .ok (.aload_n 0, 1) := by decide +kernel
theorem dX6_retract_78 : decode cX6_retract 78 = .ok (.getfield 19, 3) := by decide +kernel
theorem dX6_retract_81 : decode cX6_retract 81 = .ok (.iload 5, 2) := by decide +kernel
theorem dX6_retract_83 : decode cX6_retract 83 = .ok (.iload_n 3, 1) := by decide +kernel
theorem dX6_retract_84 : decode cX6_retract 84 = .ok (.iload 4, 2) := by decide +kernel
theorem dX6_retract_86 : decode cX6_retract 86 = .ok (.iload 7, 2) := by decide +kernel
theorem dX6_retract_88 : decode cX6_retract 88 = .ok (.invokevirtual 99, 3) := by decide +kernel
theorem dX6_retract_91 : decode cX6_retract 91 = .ok (.pop, 1) := by decide +kernel
theorem dX6_retract_92 : decode cX6_retract 92 = .ok (.iload 6, 2) := by decide +kernel
theorem dX6_retract_94 : decode cX6_retract 94 = .ok (.ireturn, 1) := by decide +kernel
theorem dX6_correct_0 : decode cX6_correct 0 = .ok (.aload_n 0, 1) := by decide +kernel
theorem dX6_correct_1 : decode cX6_correct 1 = .ok (.iload_n 1, 1) := by decide +kernel
theorem dX6_correct_2 : decode cX6_correct 2 = .ok (.iload_n 2, 1) := by decide +kernel
theorem dX6_correct_3 : decode cX6_correct 3 = .ok (.invokevirtual 65, 3) := by decide +kernel
theorem dX6_correct_6 : decode cX6_correct 6 = .ok (.aload_n 0, 1) := by decide +kernel
theorem dX6_correct_7 : decode cX6_correct 7 = .ok (.iload_n 3, 1) := by decide +kernel
theorem dX6_correct_8 : decode cX6_correct 8 = .ok (.invokevirtual 102, 3) := by decide +kernel
theorem dX6_correct_11 : decode cX6_correct 11 = .ok (.iload_n 1, 1) := by decide +kernel
theorem dX6_correct_12 : decode cX6_correct 12 = .ok (.iload_n 2, 1) := by decide +kernel
theorem dX6_correct_13 : decode cX6_correct 13 = .ok (.invokestatic 75, 3) := by decide +kernel
theorem dX6_correct_16 : decode cX6_correct 16 = .ok (.istore 5, 2) := by decide +kernel
theorem dX6_correct_18 : decode cX6_correct 18 = .ok (.aload_n 0, 1) := by decide +kernel
theorem dX6_correct_19 : decode cX6_correct 19 = .ok (.getfield 19, 3) := by decide +kernel
theorem dX6_correct_22 : decode cX6_correct 22 = .ok (.iload 5, 2) := by decide +kernel
theorem dX6_correct_24 : decode cX6_correct 24 = .ok (.iload_n 3, 1) := by decide +kernel
theorem dX6_correct_25 : decode cX6_correct 25 = .ok (.aload_n 0, 1) := by decide +kernel
theorem dX6_correct_26 : decode cX6_correct 26 = .ok (.getfield 12, 3) := by decide +kernel
theorem dX6_correct_29 : decode cX6_correct 29 = .ok (.invokevirtual 83, 3) := by decide +kernel
theorem dX6_correct_32 : decode cX6_correct 32 = .ok (.invokevirtual 106, 3) := by decide +kernel
theorem dX6_correct_35 : decode cX6_correct 35 = .ok (.istore 6, 2) := by decide +kernel
theorem dX6_correct_37 : decode cX6_correct 37 = .ok (.aload_n 0, 1) := by decide +kernel
theorem dX6_correct_38 : decode cX6_correct 38 = .ok (.iload 6, 2) := by decide +kernel
theorem dX6_correct_40 : decode cX6_correct 40 = .ok (.iconst (-1), 1) := by decide +kernel
theorem dX6_correct_41 : decode cX6_correct 41 = .ok (.if_icmp .eq 7, 3) := by decide +kernel
theorem dX6_correct_44 : decode cX6_correct 44 = .ok (.iconst 1, 1) := by decide +kernel
theorem dX6_correct_45 : decode cX6_correct 45 = .ok (.goto 4, 3) := by decide +kernel
theorem dX6_correct_48 : decode cX6_correct 48 = .ok (.iconst 0, 1) := by decide +kernel
theorem dX6_correct_49 : decode cX6_correct 49 = .ok (.invokevirtual 110, 3) := by decide +kernel
theorem dX6_correct_52 : decode cX6_correct 52 = .ok (.aload_n 0, 1) := by decide +kernel
theorem dX6_correct_53 : decode cX6_correct 53 = .ok (.invokevirtual 72, 3) := by decide +kernel
theorem dX6_correct_56 : decode cX6_correct 56 = .ok (.aload_n 0, 1) := by decide +kernel
theorem dX6_correct_57 : decode cX6_correct 57 = .ok (.getfield 19, 3) := by decide +kernel
theorem dX6_correct_60 : decode cX6_correct 60 = .ok (.iload 6, 2) := by decide +kernel
theorem dX6_correct_62 : decode cX6_correct 62 = .ok (.invokevirtual 114, 3) := by decide +kernel
theorem dX6_correct_65 : decode cX6_correct 65 = .ok (.istore 7, 2) := by decide +kernel
theorem dX6_correct_67 : decode cX6_correct 67 = .ok (.aload_n 0, 1) := by decide +kernel
theorem dX6_correct_68 : decode cX6_correct 68 = .ok (.getfield 19, 3) := by decide +kernel
theorem dX6_correct_71 : decode cX6_correct 71 = .ok (.iload 6, 2) := by decide +kernel
theorem dX6_correct_73 : decode cX6_correct 73 = .ok (.invokevirtual 118, 3) := by decide +kernel
theorem dX6_correct_76 : decode cX6_correct 76 = .ok (.istore 8, 2) := by decide +kernel
theorem dX6_correct_78 : decode cX6_correct 78 = .ok (.aload_n 0, 1) := by decide +kernel
theorem dX6_correct_79 : decode cX6_correct 79 = .ok (.bipush 99, 2) := by decide +kernel
theorem dX6_correct_81 : decode cX6_correct 81 = .ok (.iload 5, 2) := by decide +kernel
theorem dX6_correct_83 : decode cX6_correct 83 = .ok (.iload 4, 2) := by decide +kernel
theorem dX6_correct_85 : decode cX6_correct 85 = .ok (.iload 7, 2) := by decide +kernel
theorem dX6_correct_87 : decode cX6_correct 87 = .ok (.iload 8, 2) := by decide +kernel
theorem dX6_correct_89 : decode cX6_correct 89 = .ok (.invokevirtual 79, 3) := by decide +kernel
theorem dX6_correct_92 : decode cX6_correct 92 = .ok (.pop, 1) := by decide +kernel
theorem dX6_correct_93 : decode cX6_correct 93 = .ok (.iload 8, 2) := by decide +kernel
theorem dX6_correct_95 : decode cX6_correct 95 = .ok (.iload 7, 2) := by decide +kernel
theorem dX6_correct_97 : decode cX6_correct 97 = .ok (.isub, 1) := by decide +kernel
theorem dX6_correct_98 : decode cX6_correct 98 = .ok (.ireturn, 1) := by decide +kernel
theorem dX6_clock_0 : decode cX6_clock 0 = .ok (.aload_n 0, 1) := by decide +kernel
theorem dX6_clock_1 : decode cX6_clock 1 = .ok (.getfield 12, 3) := by decide +kernel
theorem dX6_clock_4 : decode cX6_clock 4 = .ok (.invokevirtual 83, 3) := by decide +kernel
theorem dX6_clock_7 : decode cX6_clock 7 = .ok (.ireturn, 1) := by decide +kernel
theorem dX6_operationAt_0 : decode cX6_operationAt 0 = .ok (.aload_n 0, 1) := by decide +kernel
theorem dX6_operationAt_1 : decode cX6_operationAt 1 = .ok (.iload_n 1, 1) := by decide +kernel
theorem dX6_operationAt_2 : decode cX6_operationAt 2 = .ok (.invokevirtual 121, 3) := by decide +kernel
theorem dX6_operationAt_5 : decode cX6_operationAt 5 = .ok (.aload_n 0, 1) := by decide +kernel
theorem dX6_operationAt_6 : decode cX6_operationAt 6 = .ok (.getfield 12, 3) := by decide +kernel
theorem dX6_operationAt_9 : decode cX6_operationAt 9 = .ok (.iload_n 1, 1) := by decide +kernel
theorem dX6_operationAt_10 : decode cX6_operationAt 10 = .ok (.invokevirtual 124, 3) := by decide +kernel
theorem dX6_operationAt_13 : decode cX6_operationAt 13 = .ok (.ireturn, 1) := by decide +kernel
theorem dX6_entityOf_0 : decode cX6_entityOf 0 = .ok (.aload_n 0, 1) := by decide +kernel
theorem dX6_entityOf_1 : decode cX6_entityOf 1 = .ok (.iload_n 1, 1) := by decide +kernel
theorem dX6_entityOf_2 : decode cX6_entityOf 2 = .ok (.invokevirtual 121, 3) := by decide +kernel
theorem dX6_entityOf_5 : decode cX6_entityOf 5 = .ok (.aload_n 0, 1) := by decide +kernel
theorem dX6_entityOf_6 : decode cX6_entityOf 6 = .ok (.getfield 12, 3) := by decide +kernel
theorem dX6_entityOf_9 : decode cX6_entityOf 9 = .ok (.iload_n 1, 1) := by decide +kernel
theorem dX6_entityOf_10 : decode cX6_entityOf 10 = .ok (.invokevirtual 128, 3) := by decide +kernel
theorem dX6_entityOf_13 : decode cX6_entityOf 13 = .ok (.iconst 3, 1) := by decide +kernel
theorem dX6_entityOf_14 : decode cX6_entityOf 14 = .ok (.idiv, 1) := by decide +kernel
theorem dX6_entityOf_15 : decode cX6_entityOf 15 = .ok (.ireturn, 1) := by decide +kernel
theorem dX6_factCount_0 : decode cX6_factCount 0 = .ok (.aload_n 0, 1) := by decide +kernel
theorem dX6_factCount_1 : decode cX6_factCount 1 = .ok (.getfield 19, 3) := by decide +kernel
theorem dX6_factCount_4 : decode cX6_factCount 4 = .ok (.invokevirtual 131, 3) := by decide +kernel
theorem dX6_factCount_7 : decode cX6_factCount 7 = .ok (.ireturn, 1) := by decide +kernel
theorem dX6_openCount_0 : decode cX6_openCount 0 = .ok (.aload_n 0, 1) := by decide +kernel
theorem dX6_openCount_1 : decode cX6_openCount 1 = .ok (.getfield 19, 3) := by decide +kernel
theorem dX6_openCount_4 : decode cX6_openCount 4 = .ok (.invokevirtual 134, 3) := by decide +kernel
theorem dX6_openCount_7 : decode cX6_openCount 7 = .ok (.ireturn, 1) := by decide +kernel
theorem dX6_factValue_0 : decode cX6_factValue 0 = .ok (.aload_n 0, 1) := by decide +kernel
theorem dX6_factValue_1 : decode cX6_factValue 1 = .ok (.iload_n 1, 1) := by decide +kernel
theorem dX6_factValue_2 : decode cX6_factValue 2 = .ok (.invokevirtual 137, 3) := by decide +kernel
theorem dX6_factValue_5 : decode cX6_factValue 5 = .ok (.aload_n 0, 1) := by decide +kernel
theorem dX6_factValue_6 : decode cX6_factValue 6 = .ok (.getfield 19, 3) := by decide +kernel
theorem dX6_factValue_9 : decode cX6_factValue 9 = .ok (.iload_n 1, 1) := by decide +kernel
theorem dX6_factValue_10 : decode cX6_factValue 10 = .ok (.invokevirtual 140, 3) := by decide +kernel
theorem dX6_factValue_13 : decode cX6_factValue 13 = .ok (.ireturn, 1) := by decide +kernel
theorem dX6_factFrom_0 : decode cX6_factFrom 0 = .ok (.aload_n 0, 1) := by decide +kernel
theorem dX6_factFrom_1 : decode cX6_factFrom 1 = .ok (.iload_n 1, 1) := by decide +kernel
theorem dX6_factFrom_2 : decode cX6_factFrom 2 = .ok (.invokevirtual 137, 3) := by decide +kernel
theorem dX6_factFrom_5 : decode cX6_factFrom 5 = .ok (.aload_n 0, 1) := by decide +kernel
theorem dX6_factFrom_6 : decode cX6_factFrom 6 = .ok (.getfield 19, 3) := by decide +kernel
theorem dX6_factFrom_9 : decode cX6_factFrom 9 = .ok (.iload_n 1, 1) := by decide +kernel
theorem dX6_factFrom_10 : decode cX6_factFrom 10 = .ok (.invokevirtual 114, 3) := by decide +kernel
theorem dX6_factFrom_13 : decode cX6_factFrom 13 = .ok (.ireturn, 1) := by decide +kernel
theorem dX6_factTo_0 : decode cX6_factTo 0 = .ok (.aload_n 0, 1) := by decide +kernel
theorem dX6_factTo_1 : decode cX6_factTo 1 = .ok (.iload_n 1, 1) := by decide +kernel
theorem dX6_factTo_2 : decode cX6_factTo 2 = .ok (.invokevirtual 137, 3) := by decide +kernel
theorem dX6_factTo_5 : decode cX6_factTo 5 = .ok (.aload_n 0, 1) := by decide +kernel
theorem dX6_factTo_6 : decode cX6_factTo 6 = .ok (.getfield 19, 3) := by decide +kernel
theorem dX6_factTo_9 : decode cX6_factTo 9 = .ok (.iload_n 1, 1) := by decide +kernel
theorem dX6_factTo_10 : decode cX6_factTo 10 = .ok (.invokevirtual 118, 3) := by decide +kernel
theorem dX6_factTo_13 : decode cX6_factTo 13 = .ok (.ireturn, 1) := by decide +kernel
theorem dX6_openedAt_0 : decode cX6_openedAt 0 = .ok (.aload_n 0, 1) := by decide +kernel
theorem dX6_openedAt_1 : decode cX6_openedAt 1 = .ok (.iload_n 1, 1) := by decide +kernel
theorem dX6_openedAt_2 : decode cX6_openedAt 2 = .ok (.invokevirtual 137, 3) := by decide +kernel
theorem dX6_openedAt_5 : decode cX6_openedAt 5 = .ok (.aload_n 0, 1) := by decide +kernel
theorem dX6_openedAt_6 : decode cX6_openedAt 6 = .ok (.getfield 19, 3) := by decide +kernel
theorem dX6_openedAt_9 : decode cX6_openedAt 9 = .ok (.iload_n 1, 1) := by decide +kernel
theorem dX6_openedAt_10 : decode cX6_openedAt 10 = .ok (.invokevirtual 143, 3) := by decide +kernel
theorem dX6_openedAt_13 : decode cX6_openedAt 13 = .ok (.ireturn, 1) := by decide +kernel
theorem dX6_closedAt_0 : decode cX6_closedAt 0 = .ok (.aload_n 0, 1) := by decide +kernel
theorem dX6_closedAt_1 : decode cX6_closedAt 1 = .ok (.iload_n 1, 1) := by decide +kernel
theorem dX6_closedAt_2 : decode cX6_closedAt 2 = .ok (.invokevirtual 137, 3) := by decide +kernel
theorem dX6_closedAt_5 : decode cX6_closedAt 5 = .ok (.aload_n 0, 1) := by decide +kernel
theorem dX6_closedAt_6 : decode cX6_closedAt 6 = .ok (.getfield 19, 3) := by decide +kernel
theorem dX6_closedAt_9 : decode cX6_closedAt 9 = .ok (.iload_n 1, 1) := by decide +kernel
theorem dX6_closedAt_10 : decode cX6_closedAt 10 = .ok (.invokevirtual 146, 3) := by decide +kernel
theorem dX6_closedAt_13 : decode cX6_closedAt 13 = .ok (.ireturn, 1) := by decide +kernel
theorem dX6_purge_0 : decode cX6_purge 0 = .ok (.iload_n 1, 1) := by decide +kernel
theorem dX6_purge_1 : decode cX6_purge 1 = .ok (.aload_n 0, 1) := by decide +kernel
theorem dX6_purge_2 : decode cX6_purge 2 = .ok (.getfield 19, 3) := by decide +kernel
theorem dX6_purge_5 : decode cX6_purge 5 = .ok (.invokevirtual 149, 3) := by decide +kernel
theorem dX6_purge_8 : decode cX6_purge 8 = .ok (.if_icmp .lt 14, 3) := by decide +kernel
theorem dX6_purge_11 : decode cX6_purge 11 = .ok (.iload_n 1, 1) := by decide +kernel
theorem dX6_purge_12 : decode cX6_purge 12 = .ok (.aload_n 0, 1) := by decide +kernel
theorem dX6_purge_13 : decode cX6_purge 13 = .ok (.getfield 12, 3) := by decide +kernel
theorem dX6_purge_16 : decode cX6_purge 16 = .ok (.invokevirtual 83, 3) := by decide +kernel
theorem dX6_purge_19 : decode cX6_purge 19 = .ok (.if_icmp .le 13, 3) := by decide +kernel
theorem dX6_purge_22 : decode cX6_purge 22 = .ok (.new 152, 3) := by decide +kernel
theorem dX6_purge_25 : decode cX6_purge 25 = .ok (.dup, 1) := by decide +kernel
theorem dX6_purge_26 : decode cX6_purge 26 = .ok (.ldc 154, 2) := by decide +kernel
theorem dX6_purge_28 : decode cX6_purge 28 = .ok (.invokespecial 156, 3) := by decide +kernel
theorem dX6_purge_31 : decode cX6_purge 31 = .ok (.athrow, 1) := by decide +kernel
theorem dX6_purge_32 : decode cX6_purge 32 = .ok (.aload_n 0, 1) := by decide +kernel
theorem dX6_purge_33 : decode cX6_purge 33 = .ok (.getfield 19, 3) := by decide +kernel
theorem dX6_purge_36 : decode cX6_purge 36 = .ok (.iload_n 1, 1) := by decide +kernel
theorem dX6_purge_37 : decode cX6_purge 37 = .ok (.invokevirtual 157, 3) := by decide +kernel
theorem dX6_purge_40 : decode cX6_purge 40 = .ok (.ireturn, 1) := by decide +kernel
theorem dX6_horizon_0 : decode cX6_horizon 0 = .ok (.aload_n 0, 1) := by decide +kernel
theorem dX6_horizon_1 : decode cX6_horizon 1 = .ok (.getfield 19, 3) := by decide +kernel
theorem dX6_horizon_4 : decode cX6_horizon 4 = .ok (.invokevirtual 149, 3) := by decide +kernel
theorem dX6_horizon_7 : decode cX6_horizon 7 = .ok (.ireturn, 1) := by decide +kernel
theorem dX6_isKnown_0 : decode cX6_isKnown 0 = .ok (.aload_n 0, 1) := by decide +kernel
theorem dX6_isKnown_1 : decode cX6_isKnown 1 = .ok (.iload_n 1, 1) := by decide +kernel
theorem dX6_isKnown_2 : decode cX6_isKnown 2 = .ok (.iload_n 2, 1) := by decide +kernel
theorem dX6_isKnown_3 : decode cX6_isKnown 3 = .ok (.invokevirtual 65, 3) := by decide +kernel
theorem dX6_isKnown_6 : decode cX6_isKnown 6 = .ok (.aload_n 0, 1) := by decide +kernel
theorem dX6_isKnown_7 : decode cX6_isKnown 7 = .ok (.iload_n 3, 1) := by decide +kernel
theorem dX6_isKnown_8 : decode cX6_isKnown 8 = .ok (.iload 4, 2) := by decide +kernel
theorem dX6_isKnown_10 : decode cX6_isKnown 10 = .ok (.invokevirtual 160, 3) := by decide +kernel
theorem dX6_isKnown_13 : decode cX6_isKnown 13 = .ok (.aload_n 0, 1) := by decide +kernel
theorem dX6_isKnown_14 : decode cX6_isKnown 14 = .ok (.getfield 19, 3) := by decide +kernel
theorem dX6_isKnown_17 : decode cX6_isKnown 17 = .ok (.iload_n 1, 1) := by decide +kernel
theorem dX6_isKnown_18 : decode cX6_isKnown 18 = .ok (.iload_n 2, 1) := by decide +kernel
theorem dX6_isKnown_19 : decode cX6_isKnown 19 = .ok (.invokestatic 75, 3) := by decide +kernel
theorem dX6_isKnown_22 : decode cX6_isKnown 22 = .ok (.iload_n 3, 1) := by decide +kernel
theorem dX6_isKnown_23 : decode cX6_isKnown 23 = .ok (.iload 4, 2) := by decide +kernel
theorem dX6_isKnown_25 : decode cX6_isKnown 25 = .ok (.invokevirtual 106, 3) := by decide +kernel
theorem dX6_isKnown_28 : decode cX6_isKnown 28 = .ok (.iconst (-1), 1) := by decide +kernel
theorem dX6_isKnown_29 : decode cX6_isKnown 29 = .ok (.if_icmp .eq 7, 3) := by decide +kernel
theorem dX6_isKnown_32 : decode cX6_isKnown 32 = .ok (.iconst 1, 1) := by decide +kernel
theorem dX6_isKnown_33 : decode cX6_isKnown 33 = .ok (.goto 4, 3) := by decide +kernel
theorem dX6_isKnown_36 : decode cX6_isKnown 36 = .ok (.iconst 0, 1) := by decide +kernel
theorem dX6_isKnown_37 : decode cX6_isKnown 37 = .ok (.ireturn, 1) := by decide +kernel
theorem dX6_valueAt_0 : decode cX6_valueAt 0 = .ok (.aload_n 0, 1) := by decide +kernel
theorem dX6_valueAt_1 : decode cX6_valueAt 1 = .ok (.iload_n 1, 1) := by decide +kernel
theorem dX6_valueAt_2 : decode cX6_valueAt 2 = .ok (.iload_n 2, 1) := by decide +kernel
theorem dX6_valueAt_3 : decode cX6_valueAt 3 = .ok (.invokevirtual 65, 3) := by decide +kernel
theorem dX6_valueAt_6 : decode cX6_valueAt 6 = .ok (.aload_n 0, 1) := by decide +kernel
theorem dX6_valueAt_7 : decode cX6_valueAt 7 = .ok (.iload_n 3, 1) := by decide +kernel
theorem dX6_valueAt_8 : decode cX6_valueAt 8 = .ok (.iload 4, 2) := by decide +kernel
theorem dX6_valueAt_10 : decode cX6_valueAt 10 = .ok (.invokevirtual 160, 3) := by decide +kernel
theorem dX6_valueAt_13 : decode cX6_valueAt 13 = .ok (.aload_n 0, 1) := by decide +kernel
theorem dX6_valueAt_14 : decode cX6_valueAt 14 = .ok (.getfield 19, 3) := by decide +kernel
theorem dX6_valueAt_17 : decode cX6_valueAt 17 = .ok (.iload_n 1, 1) := by decide +kernel
theorem dX6_valueAt_18 : decode cX6_valueAt 18 = .ok (.iload_n 2, 1) := by decide +kernel
theorem dX6_valueAt_19 : decode cX6_valueAt 19 = .ok (.invokestatic 75, 3) := by decide +kernel
theorem dX6_valueAt_22 : decode cX6_valueAt 22 = .ok (.iload_n 3, 1) := by decide +kernel
theorem dX6_valueAt_23 : decode cX6_valueAt 23 = .ok (.iload 4, 2) := by decide +kernel
theorem dX6_valueAt_25 : decode cX6_valueAt 25 = .ok (.invokevirtual 106, 3) := by decide +kernel
theorem dX6_valueAt_28 : decode cX6_valueAt 28 = .ok (.istore 5, 2) := by decide +kernel
theorem dX6_valueAt_30 : decode cX6_valueAt 30 = .ok (.aload_n 0, 1) := by decide +kernel
theorem dX6_valueAt_31 : decode cX6_valueAt 31 = .ok (.iload 5, 2) := by decide +kernel
theorem dX6_valueAt_33 : decode cX6_valueAt 33 = .ok (.iconst (-1), 1) := by decide +kernel
theorem dX6_valueAt_34 : decode cX6_valueAt 34 = .ok (.if_icmp .eq 7, 3) := by decide +kernel
theorem dX6_valueAt_37 : decode cX6_valueAt 37 = .ok (.iconst 1, 1) := by decide +kernel
theorem dX6_valueAt_38 : decode cX6_valueAt 38 = .ok (.goto 4, 3) := by decide +kernel
theorem dX6_valueAt_41 : decode cX6_valueAt 41 = .ok (.iconst 0, 1) := by decide +kernel
theorem dX6_valueAt_42 : decode cX6_valueAt 42 = .ok (.invokevirtual 110, 3) := by decide +kernel
theorem dX6_valueAt_45 : decode cX6_valueAt 45 = .ok (.aload_n 0, 1) := by decide +kernel
theorem dX6_valueAt_46 : decode cX6_valueAt 46 = .ok (.getfield 19, 3) := by decide +kernel
theorem dX6_valueAt_49 : decode cX6_valueAt 49 = .ok (.iload 5, 2) := by decide +kernel
theorem dX6_valueAt_51 : decode cX6_valueAt 51 = .ok (.invokevirtual 140, 3) := by decide +kernel
theorem dX6_valueAt_54 : decode cX6_valueAt 54 = .ok (.ireturn, 1) := by decide +kernel
theorem dX6_valueByReplay_0 : decode cX6_valueByReplay 0 = .ok (.aload_n 0, 1) := by decide +kernel
theorem dX6_valueByReplay_1 : decode cX6_valueByReplay 1 = .ok (.iload_n 1, 1) := by decide +kernel
theorem dX6_valueByReplay_2 : decode cX6_valueByReplay 2 = .ok (.iload_n 2, 1) := by decide +kernel
theorem dX6_valueByReplay_3 : decode cX6_valueByReplay 3 = .ok (.invokevirtual 65, 3) := by decide +kernel
theorem dX6_valueByReplay_6 : decode cX6_valueByReplay 6 = .ok (.aload_n 0, 1) := by decide +kernel
theorem dX6_valueByReplay_7 : decode cX6_valueByReplay 7 = .ok (.iload_n 3, 1) := by decide +kernel
theorem dX6_valueByReplay_8 : decode cX6_valueByReplay 8 = .ok (.iload 4, 2) := by decide +kernel
theorem dX6_valueByReplay_10 : decode cX6_valueByReplay 10 = .ok (.invokevirtual 160, 3) := by decide +kernel
theorem dX6_valueByReplay_13 : decode cX6_valueByReplay 13 = .ok (.aload_n 0, 1) := by decide +kernel
theorem dX6_valueByReplay_14 : decode cX6_valueByReplay 14 = .ok (.getfield 12, 3) := by decide +kernel
theorem dX6_valueByReplay_17 : decode cX6_valueByReplay 17 = .ok (.aload_n 0, 1) := by decide +kernel
theorem dX6_valueByReplay_18 : decode cX6_valueByReplay 18 = .ok (.getfield 37, 3) := by decide +kernel
theorem dX6_valueByReplay_21 : decode cX6_valueByReplay 21 = .ok (.iload_n 1, 1) := by decide +kernel
theorem dX6_valueByReplay_22 : decode cX6_valueByReplay 22 = .ok (.iload_n 2, 1) := by decide +kernel
theorem dX6_valueByReplay_23 : decode cX6_valueByReplay 23 = .ok (.invokestatic 75, 3) := by decide +kernel
theorem dX6_valueByReplay_26 : decode cX6_valueByReplay 26 = .ok (.iload 4, 2) := by decide +kernel
theorem dX6_valueByReplay_28 : decode cX6_valueByReplay 28 = .ok (.invokevirtual 163, 3) := by decide +kernel
theorem dX6_valueByReplay_31 : decode cX6_valueByReplay 31 = .ok (.aload_n 0, 1) := by decide +kernel
theorem dX6_valueByReplay_32 : decode cX6_valueByReplay 32 = .ok (.aload_n 0, 1) := by decide +kernel
theorem dX6_valueByReplay_33 : decode cX6_valueByReplay 33 = .ok (.getfield 37, 3) := by decide +kernel
theorem dX6_valueByReplay_36 : decode cX6_valueByReplay 36 = .ok (.iload_n 3, 1) := by decide +kernel
theorem dX6_valueByReplay_37 : decode cX6_valueByReplay 37 = .ok (.invokevirtual 167, 3) := by decide +kernel
theorem dX6_valueByReplay_40 : decode cX6_valueByReplay 40 = .ok (.invokevirtual 110, 3) := by decide +kernel
theorem dX6_valueByReplay_43 : decode cX6_valueByReplay 43 = .ok (.aload_n 0, 1) := by decide +kernel
theorem dX6_valueByReplay_44 : decode cX6_valueByReplay 44 = .ok (.getfield 37, 3) := by decide +kernel
theorem dX6_valueByReplay_47 : decode cX6_valueByReplay 47 = .ok (.iload_n 3, 1) := by decide +kernel
theorem dX6_valueByReplay_48 : decode cX6_valueByReplay 48 = .ok (.invokevirtual 171, 3) := by decide +kernel
theorem dX6_valueByReplay_51 : decode cX6_valueByReplay 51 = .ok (.ireturn, 1) := by decide +kernel
theorem dX6_knownDays_0 : decode cX6_knownDays 0 = .ok (.aload_n 0, 1) := by decide +kernel
theorem dX6_knownDays_1 : decode cX6_knownDays 1 = .ok (.iload_n 1, 1) := by decide +kernel
theorem dX6_knownDays_2 : decode cX6_knownDays 2 = .ok (.iload_n 2, 1) := by decide +kernel
theorem dX6_knownDays_3 : decode cX6_knownDays 3 = .ok (.invokevirtual 65, 3) := by decide +kernel
theorem dX6_knownDays_6 : decode cX6_knownDays 6 = .ok (.aload_n 0, 1) := by decide +kernel
theorem dX6_knownDays_7 : decode cX6_knownDays 7 = .ok (.iload_n 3, 1) := by decide +kernel
theorem dX6_knownDays_8 : decode cX6_knownDays 8 = .ok (.invokevirtual 172, 3) := by decide +kernel
theorem dX6_knownDays_11 : decode cX6_knownDays 11 = .ok (.aload_n 0, 1) := by decide +kernel
theorem dX6_knownDays_12 : decode cX6_knownDays 12 = .ok (.getfield 19, 3) := by decide +kernel
theorem dX6_knownDays_15 : decode cX6_knownDays 15 = .ok (.iload_n 1, 1) := by decide +kernel
theorem dX6_knownDays_16 : decode cX6_knownDays 16 = .ok (.iload_n 2, 1) := by decide +kernel
theorem dX6_knownDays_17 : decode cX6_knownDays 17 = .ok (.invokestatic 75, 3) := by decide +kernel
theorem dX6_knownDays_20 : decode cX6_knownDays 20 = .ok (.iconst 0, 1) := by decide +kernel
theorem dX6_knownDays_21 : decode cX6_knownDays 21 = .ok (.bipush 100, 2) := by decide +kernel
theorem dX6_knownDays_23 : decode cX6_knownDays 23 = .ok (.iload_n 3, 1) := by decide +kernel
theorem dX6_knownDays_24 : decode cX6_knownDays 24 = .ok (.invokevirtual 87, 3) := by decide +kernel
theorem dX6_knownDays_27 : decode cX6_knownDays 27 = .ok (.ireturn, 1) := by decide +kernel
theorem dX6_periodCount_0 : decode cX6_periodCount 0 = .ok (.aload_n 0, 1) := by decide +kernel
theorem dX6_periodCount_1 : decode cX6_periodCount 1 = .ok (.iload_n 1, 1) := by decide +kernel
theorem dX6_periodCount_2 : decode cX6_periodCount 2 = .ok (.iload_n 2, 1) := by decide +kernel
theorem dX6_periodCount_3 : decode cX6_periodCount 3 = .ok (.iload_n 3, 1) := by decide +kernel
theorem dX6_periodCount_4 : decode cX6_periodCount 4 = .ok (.invokevirtual 175, 3) := by decide +kernel
theorem dX6_periodCount_7 : decode cX6_periodCount 7 = .ok (.aload_n 0, 1) := by decide +kernel
theorem dX6_periodCount_8 : decode cX6_periodCount 8 = .ok (.getfield 47, 3) := by decide +kernel
theorem dX6_periodCount_11 : decode cX6_periodCount 11 = .ok (.invokevirtual 179, 3) := by decide +kernel
theorem dX6_periodCount_14 : decode cX6_periodCount 14 = .ok (.ireturn, 1) := by decide +kernel
theorem dX6_periodFrom_0 : decode cX6_periodFrom 0 = .ok (.aload_n 0, 1) := by decide +kernel
theorem dX6_periodFrom_1 : decode cX6_periodFrom 1 = .ok (.iload_n 1, 1) := by decide +kernel
theorem dX6_periodFrom_2 : decode cX6_periodFrom 2 = .ok (.iload_n 2, 1) := by decide +kernel
theorem dX6_periodFrom_3 : decode cX6_periodFrom 3 = .ok (.iload_n 3, 1) := by decide +kernel
theorem dX6_periodFrom_4 : decode cX6_periodFrom 4 = .ok (.invokevirtual 175, 3) := by decide +kernel
theorem dX6_periodFrom_7 : decode cX6_periodFrom 7 = .ok (.aload_n 0, 1) := by decide +kernel
theorem dX6_periodFrom_8 : decode cX6_periodFrom 8 = .ok (.iload 4, 2) := by decide +kernel
theorem dX6_periodFrom_10 : decode cX6_periodFrom 10 = .ok (.invokevirtual 182, 3) := by decide +kernel
theorem dX6_periodFrom_13 : decode cX6_periodFrom 13 = .ok (.aload_n 0, 1) := by decide +kernel
theorem dX6_periodFrom_14 : decode cX6_periodFrom 14 = .ok (.getfield 47, 3) := by decide +kernel
theorem dX6_periodFrom_17 : decode cX6_periodFrom 17 = .ok (.iload 4, 2) := by decide +kernel
theorem dX6_periodFrom_19 : decode cX6_periodFrom 19 = .ok (.invokevirtual 185, 3) := by decide +kernel
theorem dX6_periodFrom_22 : decode cX6_periodFrom 22 = .ok (.ireturn, 1) := by decide +kernel
theorem dX6_periodTo_0 : decode cX6_periodTo 0 = .ok (.aload_n 0, 1) := by decide +kernel
theorem dX6_periodTo_1 : decode cX6_periodTo 1 = .ok (.iload_n 1, 1) := by decide +kernel
theorem dX6_periodTo_2 : decode cX6_periodTo 2 = .ok (.iload_n 2, 1) := by decide +kernel
theorem dX6_periodTo_3 : decode cX6_periodTo 3 = .ok (.iload_n 3, 1) := by decide +kernel
theorem dX6_periodTo_4 : decode cX6_periodTo 4 = .ok (.invokevirtual 175, 3) := by decide +kernel
theorem dX6_periodTo_7 : decode cX6_periodTo 7 = .ok (.aload_n 0, 1) := by decide +kernel
theorem dX6_periodTo_8 : decode cX6_periodTo 8 = .ok (.iload 4, 2) := by decide +kernel
theorem dX6_periodTo_10 : decode cX6_periodTo 10 = .ok (.invokevirtual 182, 3) := by decide +kernel
theorem dX6_periodTo_13 : decode cX6_periodTo 13 = .ok (.aload_n 0, 1) := by decide +kernel
theorem dX6_periodTo_14 : decode cX6_periodTo 14 = .ok (.getfield 47, 3) := by decide +kernel
theorem dX6_periodTo_17 : decode cX6_periodTo 17 = .ok (.iload 4, 2) := by decide +kernel
theorem dX6_periodTo_19 : decode cX6_periodTo 19 = .ok (.invokevirtual 186, 3) := by decide +kernel
theorem dX6_periodTo_22 : decode cX6_periodTo 22 = .ok (.ireturn, 1) := by decide +kernel
theorem dX6_periodValue_0 : decode cX6_periodValue 0 = .ok (.aload_n 0, 1) := by decide +kernel
theorem dX6_periodValue_1 : decode cX6_periodValue 1 = .ok (.iload_n 1, 1) := by decide +kernel
theorem dX6_periodValue_2 : decode cX6_periodValue 2 = .ok (.iload_n 2, 1) := by decide +kernel
theorem dX6_periodValue_3 : decode cX6_periodValue 3 = .ok (.iload_n 3, 1) := by decide +kernel
theorem dX6_periodValue_4 : decode cX6_periodValue 4 = .ok (.invokevirtual 175, 3) := by decide +kernel
theorem dX6_periodValue_7 : decode cX6_periodValue 7 = .ok (.aload_n 0, 1) := by decide +kernel
theorem dX6_periodValue_8 : decode cX6_periodValue 8 = .ok (.iload 4, 2) := by decide +kernel
theorem dX6_periodValue_10 : decode cX6_periodValue 10 = .ok (.invokevirtual 182, 3) := by decide +kernel
theorem dX6_periodValue_13 : decode cX6_periodValue 13 = .ok (.aload_n 0, 1) := by decide +kernel
theorem dX6_periodValue_14 : decode cX6_periodValue 14 = .ok (.getfield 37, 3) := by decide +kernel
theorem dX6_periodValue_17 : decode cX6_periodValue 17 = .ok (.aload_n 0, 1) := by decide +kernel
theorem dX6_periodValue_18 : decode cX6_periodValue 18 = .ok (.getfield 47, 3) := by decide +kernel
theorem dX6_periodValue_21 : decode cX6_periodValue 21 = .ok (.iload 4, 2) := by decide +kernel
theorem dX6_periodValue_23 : decode cX6_periodValue 23 = .ok (.invokevirtual 185, 3) := by decide +kernel
theorem dX6_periodValue_26 : decode cX6_periodValue 26 = .ok (.invokevirtual 171, 3) := by decide +kernel
theorem dX6_periodValue_29 : decode cX6_periodValue 29 = .ok (.ireturn, 1) := by decide +kernel
theorem dX6_integral_0 : decode cX6_integral 0 = .ok (.aload_n 0, 1) := by decide +kernel
theorem dX6_integral_1 : decode cX6_integral 1 = .ok (.iload_n 1, 1) := by decide +kernel
theorem dX6_integral_2 : decode cX6_integral 2 = .ok (.iload_n 2, 1) := by decide +kernel
theorem dX6_integral_3 : decode cX6_integral 3 = .ok (.invokevirtual 65, 3) := by decide +kernel
theorem dX6_integral_6 : decode cX6_integral 6 = .ok (.aload_n 0, 1) := by decide +kernel
theorem dX6_integral_7 : decode cX6_integral 7 = .ok (.iload_n 3, 1) := by decide +kernel
theorem dX6_integral_8 : decode cX6_integral 8 = .ok (.invokevirtual 172, 3) := by decide +kernel
theorem dX6_integral_11 : decode cX6_integral 11 = .ok (.aload_n 0, 1) := by decide +kernel
theorem dX6_integral_12 : decode cX6_integral 12 = .ok (.getfield 19, 3) := by decide +kernel
theorem dX6_integral_15 : decode cX6_integral 15 = .ok (.aload_n 0, 1) := by decide +kernel
theorem dX6_integral_16 : decode cX6_integral 16 = .ok (.getfield 37, 3) := by decide +kernel
theorem dX6_integral_19 : decode cX6_integral 19 = .ok (.iload_n 1, 1) := by decide +kernel
theorem dX6_integral_20 : decode cX6_integral 20 = .ok (.iload_n 2, 1) := by decide +kernel
theorem dX6_integral_21 : decode cX6_integral 21 = .ok (.invokestatic 75, 3) := by decide +kernel
theorem dX6_integral_24 : decode cX6_integral 24 = .ok (.iload_n 3, 1) := by decide +kernel
theorem dX6_integral_25 : decode cX6_integral 25 = .ok (.invokevirtual 187, 3) := by decide +kernel
theorem dX6_integral_28 : decode cX6_integral 28 = .ok (.aload_n 0, 1) := by decide +kernel
theorem dX6_integral_29 : decode cX6_integral 29 = .ok (.getfield 37, 3) := by decide +kernel
theorem dX6_integral_32 : decode cX6_integral 32 = .ok (.invokevirtual 190, 3) := by decide +kernel
theorem dX6_integral_35 : decode cX6_integral 35 = .ok (.lreturn, 1) := by decide +kernel
theorem dX6_changedDays_0 : decode cX6_changedDays 0 = .ok (.aload_n 0, 1) := by decide +kernel
theorem dX6_changedDays_1 : decode cX6_changedDays 1 = .ok (.iload_n 1, 1) := by decide +kernel
theorem dX6_changedDays_2 : decode cX6_changedDays 2 = .ok (.iload_n 2, 1) := by decide +kernel
theorem dX6_changedDays_3 : decode cX6_changedDays 3 = .ok (.invokevirtual 65, 3) := by decide +kernel
theorem dX6_changedDays_6 : decode cX6_changedDays 6 = .ok (.aload_n 0, 1) := by decide +kernel
theorem dX6_changedDays_7 : decode cX6_changedDays 7 = .ok (.iload_n 3, 1) := by decide +kernel
theorem dX6_changedDays_8 : decode cX6_changedDays 8 = .ok (.invokevirtual 194, 3) := by decide +kernel
theorem dX6_changedDays_11 : decode cX6_changedDays 11 = .ok (.aload_n 0, 1) := by decide +kernel
theorem dX6_changedDays_12 : decode cX6_changedDays 12 = .ok (.iload 4, 2) := by decide +kernel
theorem dX6_changedDays_14 : decode cX6_changedDays 14 = .ok (.invokevirtual 194, 3) := by decide +kernel
theorem dX6_changedDays_17 : decode cX6_changedDays 17 = .ok (.aload_n 0, 1) := by decide +kernel
theorem dX6_changedDays_18 : decode cX6_changedDays 18 = .ok (.iload_n 3, 1) := by decide +kernel
theorem dX6_changedDays_19 : decode cX6_changedDays 19 = .ok (.invokevirtual 197, 3) := by decide +kernel
theorem dX6_changedDays_22 : decode cX6_changedDays 22 = .ok (.aload_n 0, 1) := by decide +kernel
theorem dX6_changedDays_23 : decode cX6_changedDays 23 = .ok (.iload 4, 2) := by decide +kernel
theorem dX6_changedDays_25 : decode cX6_changedDays 25 = .ok (.invokevirtual 197, 3) := by decide +kernel
theorem dX6_changedDays_28 : decode cX6_changedDays 28 = .ok (.iload_n 1, 1) := by decide +kernel
theorem dX6_changedDays_29 : decode cX6_changedDays 29 = .ok (.iload_n 2, 1) := by decide +kernel
theorem dX6_changedDays_30 : decode cX6_changedDays 30 = .ok (.invokestatic 75, 3) := by decide +kernel
theorem dX6_changedDays_33 : decode cX6_changedDays 33 = .ok (.istore 5, 2) := by decide +kernel
theorem dX6_changedDays_35 : decode cX6_changedDays 35 = .ok (.aload_n 0, 1) := by decide +kernel
theorem dX6_changedDays_36 : decode cX6_changedDays 36 = .ok (.getfield 19, 3) := by decide +kernel
theorem dX6_changedDays_39 : decode cX6_changedDays 39 = .ok (.aload_n 0, 1) := by decide +kernel
theorem dX6_changedDays_40 : decode cX6_changedDays 40 = .ok (.getfield 37, 3) := by decide +kernel
theorem dX6_changedDays_43 : decode cX6_changedDays 43 = .ok (.iload 5, 2) := by decide +kernel
theorem dX6_changedDays_45 : decode cX6_changedDays 45 = .ok (.iload_n 3, 1) := by decide +kernel
theorem dX6_changedDays_46 : decode cX6_changedDays 46 = .ok (.invokevirtual 187, 3) := by decide +kernel
theorem dX6_changedDays_49 : decode cX6_changedDays 49 = .ok (.aload_n 0, 1) := by decide +kernel
theorem dX6_changedDays_50 : decode cX6_changedDays 50 = .ok (.getfield 19, 3) := by decide +kernel
theorem dX6_changedDays_53 : decode cX6_changedDays 53 = .ok (.aload_n 0, 1) := by decide +kernel
theorem dX6_changedDays_54 : decode cX6_changedDays 54 = .ok (.getfield 41, 3) := by decide +kernel
theorem dX6_changedDays_57 : decode cX6_changedDays 57 = .ok (.iload 5, 2) := by decide +kernel
theorem dX6_changedDays_59 : decode cX6_changedDays 59 = .ok (.iload 4, 2) := by decide +kernel
theorem dX6_changedDays_61 : decode cX6_changedDays 61 = .ok (.invokevirtual 187, 3) := by decide +kernel
theorem dX6_changedDays_64 : decode cX6_changedDays 64 = .ok (.aload_n 0, 1) := by decide +kernel
theorem dX6_changedDays_65 : decode cX6_changedDays 65 = .ok (.getfield 37, 3) := by decide +kernel
theorem dX6_changedDays_68 : decode cX6_changedDays 68 = .ok (.aload_n 0, 1) := by decide +kernel
theorem dX6_changedDays_69 : decode cX6_changedDays 69 = .ok (.getfield 41, 3) := by decide +kernel
theorem dX6_changedDays_72 : decode cX6_changedDays 72 = .ok (.invokevirtual 200, 3) := by decide +kernel
theorem dX6_changedDays_75 : decode cX6_changedDays 75 = .ok (.ireturn, 1) := by decide +kernel
theorem dX6_total_0 : decode cX6_total 0 = .ok (.aload_n 0, 1) := by decide +kernel
theorem dX6_total_1 : decode cX6_total 1 = .ok (.iload_n 1, 1) := by decide +kernel
theorem dX6_total_2 : decode cX6_total 2 = .ok (.invokevirtual 204, 3) := by decide +kernel
theorem dX6_total_5 : decode cX6_total 5 = .ok (.aload_n 0, 1) := by decide +kernel
theorem dX6_total_6 : decode cX6_total 6 = .ok (.iload_n 2, 1) := by decide +kernel
theorem dX6_total_7 : decode cX6_total 7 = .ok (.iload_n 3, 1) := by decide +kernel
theorem dX6_total_8 : decode cX6_total 8 = .ok (.invokevirtual 160, 3) := by decide +kernel
theorem dX6_total_11 : decode cX6_total 11 = .ok (.lconst 0, 1) := by decide +kernel
theorem dX6_total_12 : decode cX6_total 12 = .ok (.lstore 4, 2) := by decide +kernel
theorem dX6_total_14 : decode cX6_total 14 = .ok (.iconst 0, 1) := by decide +kernel
theorem dX6_total_15 : decode cX6_total 15 = .ok (.istore 6, 2) := by decide +kernel
theorem dX6_total_17 : decode cX6_total 17 = .ok (.iload 6, 2) := by decide +kernel
theorem dX6_total_19 : decode cX6_total 19 = .ok (.aload_n 0, 1) := by decide +kernel
theorem dX6_total_20 : decode cX6_total 20 = .ok (.getfield 30, 3) := by decide +kernel
theorem dX6_total_23 : decode cX6_total 23 = .ok (.if_icmp .ge 75, 3) := by decide +kernel
theorem dX6_total_26 : decode cX6_total 26 = .ok (.aload_n 0, 1) := by decide +kernel
theorem dX6_total_27 : decode cX6_total 27 = .ok (.getfield 19, 3) := by decide +kernel
theorem dX6_total_30 : decode cX6_total 30 = .ok (.iload 6, 2) := by decide +kernel
theorem dX6_total_32 : decode cX6_total 32 = .ok (.iload_n 1, 1) := by decide +kernel
theorem dX6_total_33 : decode cX6_total 33 = .ok (.invokestatic 75, 3) := by decide +kernel
theorem dX6_total_36 : decode cX6_total 36 = .ok (.iload_n 2, 1) := by decide +kernel
theorem dX6_total_37 : decode cX6_total 37 = .ok (.iload_n 3, 1) := by decide +kernel
theorem dX6_total_38 : decode cX6_total 38 = .ok (.invokevirtual 106, 3) := by decide +kernel
theorem dX6_total_41 : decode cX6_total 41 = .ok (.istore 7, 2) := by decide +kernel
theorem dX6_total_43 : decode cX6_total 43 = .ok (.iload 7, 2) := by decide +kernel
theorem dX6_total_45 : decode cX6_total 45 = .ok (.iconst (-1), 1) := by decide +kernel
theorem dX6_total_46 : decode cX6_total 46 = .ok (.if_icmp .eq 18, 3) := by decide +kernel
theorem dX6_total_49 : decode cX6_total 49 = .ok (.lload 4, 2) := by decide +kernel
theorem dX6_total_51 : decode cX6_total 51 = .ok (.aload_n 0, 1) := by decide +kernel
theorem dX6_total_52 : decode cX6_total 52 = .ok (.getfield 19, 3) := by decide +kernel
theorem dX6_total_55 : decode cX6_total 55 = .ok (.iload 7, 2) := by decide +kernel
theorem dX6_total_57 : decode cX6_total 57 = .ok (.invokevirtual 140, 3) := by decide +kernel
theorem dX6_total_60 : decode cX6_total 60 = .ok (.i2l, 1) := by decide +kernel
theorem dX6_total_61 : decode cX6_total 61 = .ok (.ladd, 1) := by decide +kernel
theorem dX6_total_62 : decode cX6_total 62 = .ok (.lstore 4, 2) := by decide +kernel
theorem dX6_total_64 : decode cX6_total 64 = .ok (.lload 4, 2) := by decide +kernel
theorem dX6_total_66 : decode cX6_total 66 = .ok (.ldc2_w 209, 3) := by decide +kernel
theorem dX6_total_69 : decode cX6_total 69 = .ok (.lcmp, 1) := by decide +kernel
theorem dX6_total_70 : decode cX6_total 70 = .ok (.ifCond .lt 12, 3) := by decide +kernel
theorem dX6_total_73 : decode cX6_total 73 = .ok (.lload 4, 2) := by decide +kernel
theorem dX6_total_75 : decode cX6_total 75 = .ok (.ldc2_w 211, 3) := by decide +kernel
theorem dX6_total_78 : decode cX6_total 78 = .ok (.lcmp, 1) := by decide +kernel
theorem dX6_total_79 : decode cX6_total 79 = .ok (.ifCond .le 13, 3) := by decide +kernel
theorem dX6_total_82 : decode cX6_total 82 = .ok (.new 213, 3) := by decide +kernel
theorem dX6_total_85 : decode cX6_total 85 = .ok (.dup, 1) := by decide +kernel
theorem dX6_total_86 : decode cX6_total 86 = .ok (.ldc 215, 2) := by decide +kernel
theorem dX6_total_88 : decode cX6_total 88 = .ok (.invokespecial 217, 3) := by decide +kernel
theorem dX6_total_91 : decode cX6_total 91 = .ok (.athrow, 1) := by decide +kernel
theorem dX6_total_92 : decode cX6_total 92 = .ok (.iinc 6 1, 3) := by decide +kernel
theorem dX6_total_95 : decode cX6_total 95 = .ok (.goto (-78), 3) := by decide +kernel
theorem dX6_total_98 : decode cX6_total 98 = .ok (.lload 4, 2) := by decide +kernel
theorem dX6_total_100 : decode cX6_total 100 = .ok (.l2i, 1) := by decide +kernel
theorem dX6_total_101 : decode cX6_total 101 = .ok (.ireturn, 1) := by decide +kernel
theorem dX6_meanValue_0 : decode cX6_meanValue 0 = .ok (.aload_n 0, 1) := by decide +kernel
theorem dX6_meanValue_1 : decode cX6_meanValue 1 = .ok (.iload_n 1, 1) := by decide +kernel
theorem dX6_meanValue_2 : decode cX6_meanValue 2 = .ok (.invokevirtual 204, 3) := by decide +kernel
theorem dX6_meanValue_5 : decode cX6_meanValue 5 = .ok (.aload_n 0, 1) := by decide +kernel
theorem dX6_meanValue_6 : decode cX6_meanValue 6 = .ok (.iload_n 2, 1) := by decide +kernel
theorem dX6_meanValue_7 : decode cX6_meanValue 7 = .ok (.iload_n 3, 1) := by decide +kernel
theorem dX6_meanValue_8 : decode cX6_meanValue 8 = .ok (.invokevirtual 160, 3) := by decide +kernel
theorem dX6_meanValue_11 : decode cX6_meanValue 11 = .ok (.lconst 0, 1) := by decide +kernel
theorem dX6_meanValue_12 : decode cX6_meanValue 12 = .ok (.lstore 4, 2) := by decide +kernel
theorem dX6_meanValue_14 : decode cX6_meanValue 14 = .ok (.iconst 0, 1) := by decide +kernel
theorem dX6_meanValue_15 : decode cX6_meanValue 15 = .ok (.istore 6, 2) := by decide +kernel
theorem dX6_meanValue_17 : decode cX6_meanValue 17 = .ok (.iconst 0, 1) := by decide +kernel
theorem dX6_meanValue_18 : decode cX6_meanValue 18 = .ok (.istore 7, 2) := by decide +kernel
theorem dX6_meanValue_20 : decode cX6_meanValue 20 = .ok (.iload 7, 2) := by decide +kernel
theorem dX6_meanValue_22 : decode cX6_meanValue 22 = .ok (.aload_n 0, 1) := by decide +kernel
theorem dX6_meanValue_23 : decode cX6_meanValue 23 = .ok (.getfield 30, 3) := by decide +kernel
theorem dX6_meanValue_26 : decode cX6_meanValue 26 = .ok (.if_icmp .ge 50, 3) := by decide +kernel
theorem dX6_meanValue_29 : decode cX6_meanValue 29 = .ok (.aload_n 0, 1) := by decide +kernel
theorem dX6_meanValue_30 : decode cX6_meanValue 30 = .ok (.getfield 19, 3) := by decide +kernel
theorem dX6_meanValue_33 : decode cX6_meanValue 33 = .ok (.iload 7, 2) := by decide +kernel
theorem dX6_meanValue_35 : decode cX6_meanValue 35 = .ok (.iload_n 1, 1) := by decide +kernel
theorem dX6_meanValue_36 : decode cX6_meanValue 36 = .ok (.invokestatic 75, 3) := by decide +kernel
theorem dX6_meanValue_39 : decode cX6_meanValue 39 = .ok (.iload_n 2, 1) := by decide +kernel
theorem dX6_meanValue_40 : decode cX6_meanValue 40 = .ok (.iload_n 3, 1) := by decide +kernel
theorem dX6_meanValue_41 : decode cX6_meanValue 41 = .ok (.invokevirtual 106, 3) := by decide +kernel
theorem dX6_meanValue_44 : decode cX6_meanValue 44 = .ok (.istore 8, 2) := by decide +kernel
theorem dX6_meanValue_46 : decode cX6_meanValue 46 = .ok (.iload 8, 2) := by decide +kernel
theorem dX6_meanValue_48 : decode cX6_meanValue 48 = .ok (.iconst (-1), 1) := by decide +kernel
theorem dX6_meanValue_49 : decode cX6_meanValue 49 = .ok (.if_icmp .eq 21, 3) := by decide +kernel
theorem dX6_meanValue_52 : decode cX6_meanValue 52 = .ok (.lload 4, 2) := by decide +kernel
theorem dX6_meanValue_54 : decode cX6_meanValue 54 = .ok (.aload_n 0, 1) := by decide +kernel
theorem dX6_meanValue_55 : decode cX6_meanValue 55 = .ok (.getfield 19, 3) := by decide +kernel
theorem dX6_meanValue_58 : decode cX6_meanValue 58 = .ok (.iload 8, 2) := by decide +kernel
theorem dX6_meanValue_60 : decode cX6_meanValue 60 = .ok (.invokevirtual 140, 3) := by decide +kernel
theorem dX6_meanValue_63 : decode cX6_meanValue 63 = .ok (.i2l, 1) := by decide +kernel
theorem dX6_meanValue_64 : decode cX6_meanValue 64 = .ok (.ladd, 1) := by decide +kernel
theorem dX6_meanValue_65 : decode cX6_meanValue 65 = .ok (.lstore 4, 2) := by decide +kernel
theorem dX6_meanValue_67 : decode cX6_meanValue 67 = .ok (.iinc 6 1, 3) := by decide +kernel
theorem dX6_meanValue_70 : decode cX6_meanValue 70 = .ok (.iinc 7 1, 3) := by decide +kernel
theorem dX6_meanValue_73 : decode cX6_meanValue 73 = .ok (.goto (-53), 3) := by decide +kernel
theorem dX6_meanValue_76 : decode cX6_meanValue 76 = .ok (.iload 6, 2) := by decide +kernel
theorem dX6_meanValue_78 : decode cX6_meanValue 78 = .ok (.ifCond .ne 13, 3) := by decide +kernel
theorem dX6_meanValue_81 : decode cX6_meanValue 81 = .ok (.new 213, 3) := by decide +kernel
theorem dX6_meanValue_84 : decode cX6_meanValue 84 = .ok (.dup, 1) := by decide +kernel
theorem dX6_meanValue_85 : decode cX6_meanValue 85 = .ok (.ldc 218, 2) := by decide +kernel
theorem dX6_meanValue_87 : decode cX6_meanValue 87 = .ok (.invokespecial 217, 3) := by decide +kernel
theorem dX6_meanValue_90 : decode cX6_meanValue 90 = .ok (.athrow, 1) := by decide +kernel
theorem dX6_meanValue_91 : decode cX6_meanValue 91 = .ok (.lload 4, 2) := by decide +kernel
theorem dX6_meanValue_93 : decode cX6_meanValue 93 = .ok (.l2d, 1) := by decide +kernel
theorem dX6_meanValue_94 : decode cX6_meanValue 94 = .ok (.iload 6, 2) := by decide +kernel
theorem dX6_meanValue_96 : decode cX6_meanValue 96 = .ok (.i2d, 1) := by decide +kernel
theorem dX6_meanValue_97 : decode cX6_meanValue 97 = .ok (.ddiv, 1) := by decide +kernel
theorem dX6_meanValue_98 : decode cX6_meanValue 98 = .ok (.dreturn, 1) := by decide +kernel
theorem dX6_joinCount_0 : decode cX6_joinCount 0 = .ok (.aload_n 0, 1) := by decide +kernel
theorem dX6_joinCount_1 : decode cX6_joinCount 1 = .ok (.iload_n 1, 1) := by decide +kernel
theorem dX6_joinCount_2 : decode cX6_joinCount 2 = .ok (.iload_n 2, 1) := by decide +kernel
theorem dX6_joinCount_3 : decode cX6_joinCount 3 = .ok (.iload_n 3, 1) := by decide +kernel
theorem dX6_joinCount_4 : decode cX6_joinCount 4 = .ok (.iload 4, 2) := by decide +kernel
theorem dX6_joinCount_6 : decode cX6_joinCount 6 = .ok (.iload 5, 2) := by decide +kernel
theorem dX6_joinCount_8 : decode cX6_joinCount 8 = .ok (.invokevirtual 220, 3) := by decide +kernel
theorem dX6_joinCount_11 : decode cX6_joinCount 11 = .ok (.aload_n 0, 1) := by decide +kernel
theorem dX6_joinCount_12 : decode cX6_joinCount 12 = .ok (.getfield 47, 3) := by decide +kernel
theorem dX6_joinCount_15 : decode cX6_joinCount 15 = .ok (.invokevirtual 179, 3) := by decide +kernel
theorem dX6_joinCount_18 : decode cX6_joinCount 18 = .ok (.ireturn, 1) := by decide +kernel
theorem dX6_joinFrom_0 : decode cX6_joinFrom 0 = .ok (.aload_n 0, 1) := by decide +kernel
theorem dX6_joinFrom_1 : decode cX6_joinFrom 1 = .ok (.iload_n 1, 1) := by decide +kernel
theorem dX6_joinFrom_2 : decode cX6_joinFrom 2 = .ok (.iload_n 2, 1) := by decide +kernel
theorem dX6_joinFrom_3 : decode cX6_joinFrom 3 = .ok (.iload_n 3, 1) := by decide +kernel
theorem dX6_joinFrom_4 : decode cX6_joinFrom 4 = .ok (.iload 4, 2) := by decide +kernel
theorem dX6_joinFrom_6 : decode cX6_joinFrom 6 = .ok (.iload 5, 2) := by decide +kernel
theorem dX6_joinFrom_8 : decode cX6_joinFrom 8 = .ok (.invokevirtual 220, 3) := by decide +kernel
theorem dX6_joinFrom_11 : decode cX6_joinFrom 11 = .ok (.aload_n 0, 1) := by decide +kernel
theorem dX6_joinFrom_12 : decode cX6_joinFrom 12 = .ok (.iload 6, 2) := by decide +kernel
theorem dX6_joinFrom_14 : decode cX6_joinFrom 14 = .ok (.invokevirtual 182, 3) := by decide +kernel
theorem dX6_joinFrom_17 : decode cX6_joinFrom 17 = .ok (.aload_n 0, 1) := by decide +kernel
theorem dX6_joinFrom_18 : decode cX6_joinFrom 18 = .ok (.getfield 47, 3) := by decide +kernel
theorem dX6_joinFrom_21 : decode cX6_joinFrom 21 = .ok (.iload 6, 2) := by decide +kernel
theorem dX6_joinFrom_23 : decode cX6_joinFrom 23 = .ok (.invokevirtual 185, 3) := by decide +kernel
theorem dX6_joinFrom_26 : decode cX6_joinFrom 26 = .ok (.ireturn, 1) := by decide +kernel
theorem dX6_joinTo_0 : decode cX6_joinTo 0 = .ok (.aload_n 0, 1) := by decide +kernel
theorem dX6_joinTo_1 : decode cX6_joinTo 1 = .ok (.iload_n 1, 1) := by decide +kernel
theorem dX6_joinTo_2 : decode cX6_joinTo 2 = .ok (.iload_n 2, 1) := by decide +kernel
theorem dX6_joinTo_3 : decode cX6_joinTo 3 = .ok (.iload_n 3, 1) := by decide +kernel
theorem dX6_joinTo_4 : decode cX6_joinTo 4 = .ok (.iload 4, 2) := by decide +kernel
theorem dX6_joinTo_6 : decode cX6_joinTo 6 = .ok (.iload 5, 2) := by decide +kernel
theorem dX6_joinTo_8 : decode cX6_joinTo 8 = .ok (.invokevirtual 220, 3) := by decide +kernel
theorem dX6_joinTo_11 : decode cX6_joinTo 11 = .ok (.aload_n 0, 1) := by decide +kernel
theorem dX6_joinTo_12 : decode cX6_joinTo 12 = .ok (.iload 6, 2) := by decide +kernel
theorem dX6_joinTo_14 : decode cX6_joinTo 14 = .ok (.invokevirtual 182, 3) := by decide +kernel
theorem dX6_joinTo_17 : decode cX6_joinTo 17 = .ok (.aload_n 0, 1) := by decide +kernel
theorem dX6_joinTo_18 : decode cX6_joinTo 18 = .ok (.getfield 47, 3) := by decide +kernel
theorem dX6_joinTo_21 : decode cX6_joinTo 21 = .ok (.iload 6, 2) := by decide +kernel
theorem dX6_joinTo_23 : decode cX6_joinTo 23 = .ok (.invokevirtual 186, 3) := by decide +kernel
theorem dX6_joinTo_26 : decode cX6_joinTo 26 = .ok (.ireturn, 1) := by decide +kernel
theorem dX6_commonDays_0 : decode cX6_commonDays 0 = .ok (.aload_n 0, 1) := by decide +kernel
theorem dX6_commonDays_1 : decode cX6_commonDays 1 = .ok (.iload_n 1, 1) := by decide +kernel
theorem dX6_commonDays_2 : decode cX6_commonDays 2 = .ok (.iload_n 2, 1) := by decide +kernel
theorem dX6_commonDays_3 : decode cX6_commonDays 3 = .ok (.iload_n 3, 1) := by decide +kernel
theorem dX6_commonDays_4 : decode cX6_commonDays 4 = .ok (.iload 4, 2) := by decide +kernel
theorem dX6_commonDays_6 : decode cX6_commonDays 6 = .ok (.iload 5, 2) := by decide +kernel
theorem dX6_commonDays_8 : decode cX6_commonDays 8 = .ok (.invokevirtual 224, 3) := by decide +kernel
theorem dX6_commonDays_11 : decode cX6_commonDays 11 = .ok (.aload_n 0, 1) := by decide +kernel
theorem dX6_commonDays_12 : decode cX6_commonDays 12 = .ok (.getfield 37, 3) := by decide +kernel
theorem dX6_commonDays_15 : decode cX6_commonDays 15 = .ok (.aload_n 0, 1) := by decide +kernel
theorem dX6_commonDays_16 : decode cX6_commonDays 16 = .ok (.getfield 41, 3) := by decide +kernel
theorem dX6_commonDays_19 : decode cX6_commonDays 19 = .ok (.invokevirtual 227, 3) := by decide +kernel
theorem dX6_commonDays_22 : decode cX6_commonDays 22 = .ok (.ireturn, 1) := by decide +kernel
theorem dX6_agreeDays_0 : decode cX6_agreeDays 0 = .ok (.aload_n 0, 1) := by decide +kernel
theorem dX6_agreeDays_1 : decode cX6_agreeDays 1 = .ok (.iload_n 1, 1) := by decide +kernel
theorem dX6_agreeDays_2 : decode cX6_agreeDays 2 = .ok (.iload_n 2, 1) := by decide +kernel
theorem dX6_agreeDays_3 : decode cX6_agreeDays 3 = .ok (.iload_n 3, 1) := by decide +kernel
theorem dX6_agreeDays_4 : decode cX6_agreeDays 4 = .ok (.iload 4, 2) := by decide +kernel
theorem dX6_agreeDays_6 : decode cX6_agreeDays 6 = .ok (.iload 5, 2) := by decide +kernel
theorem dX6_agreeDays_8 : decode cX6_agreeDays 8 = .ok (.invokevirtual 224, 3) := by decide +kernel
theorem dX6_agreeDays_11 : decode cX6_agreeDays 11 = .ok (.aload_n 0, 1) := by decide +kernel
theorem dX6_agreeDays_12 : decode cX6_agreeDays 12 = .ok (.getfield 37, 3) := by decide +kernel
theorem dX6_agreeDays_15 : decode cX6_agreeDays 15 = .ok (.aload_n 0, 1) := by decide +kernel
theorem dX6_agreeDays_16 : decode cX6_agreeDays 16 = .ok (.getfield 41, 3) := by decide +kernel
theorem dX6_agreeDays_19 : decode cX6_agreeDays 19 = .ok (.invokevirtual 230, 3) := by decide +kernel
theorem dX6_agreeDays_22 : decode cX6_agreeDays 22 = .ok (.ireturn, 1) := by decide +kernel
theorem dX6_versionCount_0 : decode cX6_versionCount 0 = .ok (.aload_n 0, 1) := by decide +kernel
theorem dX6_versionCount_1 : decode cX6_versionCount 1 = .ok (.iload_n 1, 1) := by decide +kernel
theorem dX6_versionCount_2 : decode cX6_versionCount 2 = .ok (.iload_n 2, 1) := by decide +kernel
theorem dX6_versionCount_3 : decode cX6_versionCount 3 = .ok (.iload_n 3, 1) := by decide +kernel
theorem dX6_versionCount_4 : decode cX6_versionCount 4 = .ok (.invokevirtual 233, 3) := by decide +kernel
theorem dX6_versionCount_7 : decode cX6_versionCount 7 = .ok (.aload_n 0, 1) := by decide +kernel
theorem dX6_versionCount_8 : decode cX6_versionCount 8 = .ok (.getfield 54, 3) := by decide +kernel
theorem dX6_versionCount_11 : decode cX6_versionCount 11 = .ok (.invokevirtual 236, 3) := by decide +kernel
theorem dX6_versionCount_14 : decode cX6_versionCount 14 = .ok (.ireturn, 1) := by decide +kernel
theorem dX6_versionTick_0 : decode cX6_versionTick 0 = .ok (.aload_n 0, 1) := by decide +kernel
theorem dX6_versionTick_1 : decode cX6_versionTick 1 = .ok (.iload_n 1, 1) := by decide +kernel
theorem dX6_versionTick_2 : decode cX6_versionTick 2 = .ok (.iload_n 2, 1) := by decide +kernel
theorem dX6_versionTick_3 : decode cX6_versionTick 3 = .ok (.iload_n 3, 1) := by decide +kernel
theorem dX6_versionTick_4 : decode cX6_versionTick 4 = .ok (.invokevirtual 233, 3) := by decide +kernel
theorem dX6_versionTick_7 : decode cX6_versionTick 7 = .ok (.aload_n 0, 1) := by decide +kernel
theorem dX6_versionTick_8 : decode cX6_versionTick 8 = .ok (.iload 4, 2) := by decide +kernel
theorem dX6_versionTick_10 : decode cX6_versionTick 10 = .ok (.invokevirtual 237, 3) := by decide +kernel
theorem dX6_versionTick_13 : decode cX6_versionTick 13 = .ok (.aload_n 0, 1) := by decide +kernel
theorem dX6_versionTick_14 : decode cX6_versionTick 14 = .ok (.getfield 54, 3) := by decide +kernel
theorem dX6_versionTick_17 : decode cX6_versionTick 17 = .ok (.iload 4, 2) := by decide +kernel
theorem dX6_versionTick_19 : decode cX6_versionTick 19 = .ok (.invokevirtual 240, 3) := by decide +kernel
theorem dX6_versionTick_22 : decode cX6_versionTick 22 = .ok (.ireturn, 1) := by decide +kernel
theorem dX6_isVersionKnown_0 : decode cX6_isVersionKnown 0 = .ok (.aload_n 0, 1) := by decide +kernel
theorem dX6_isVersionKnown_1 : decode cX6_isVersionKnown 1 = .ok (.iload_n 1, 1) := by decide +kernel
theorem dX6_isVersionKnown_2 : decode cX6_isVersionKnown 2 = .ok (.iload_n 2, 1) := by decide +kernel
theorem dX6_isVersionKnown_3 : decode cX6_isVersionKnown 3 = .ok (.iload_n 3, 1) := by decide +kernel
theorem dX6_isVersionKnown_4 : decode cX6_isVersionKnown 4 = .ok (.invokevirtual 233, 3) := by decide +kernel
theorem dX6_isVersionKnown_7 : decode cX6_isVersionKnown 7 = .ok (.aload_n 0, 1) := by decide +kernel
theorem dX6_isVersionKnown_8 : decode cX6_isVersionKnown 8 = .ok (.iload 4, 2) := by decide +kernel
theorem dX6_isVersionKnown_10 : decode cX6_isVersionKnown 10 = .ok (.invokevirtual 237, 3) := by decide +kernel
theorem dX6_isVersionKnown_13 : decode cX6_isVersionKnown 13 = .ok (.aload_n 0, 1) := by decide +kernel
theorem dX6_isVersionKnown_14 : decode cX6_isVersionKnown 14 = .ok (.getfield 54, 3) := by decide +kernel
theorem dX6_isVersionKnown_17 : decode cX6_isVersionKnown 17 = .ok (.iload 4, 2) := by decide +kernel
theorem dX6_isVersionKnown_19 : decode cX6_isVersionKnown 19 = .ok (.invokevirtual 243, 3) := by decide +kernel
theorem dX6_isVersionKnown_22 : decode cX6_isVersionKnown 22 = .ok (.ireturn, 1) := by decide +kernel
theorem dX6_versionValue_0 : decode cX6_versionValue 0 = .ok (.aload_n 0, 1) := by decide +kernel
theorem dX6_versionValue_1 : decode cX6_versionValue 1 = .ok (.iload_n 1, 1) := by decide +kernel
theorem dX6_versionValue_2 : decode cX6_versionValue 2 = .ok (.iload_n 2, 1) := by decide +kernel
theorem dX6_versionValue_3 : decode cX6_versionValue 3 = .ok (.iload_n 3, 1) := by decide +kernel
theorem dX6_versionValue_4 : decode cX6_versionValue 4 = .ok (.invokevirtual 233, 3) := by decide +kernel
theorem dX6_versionValue_7 : decode cX6_versionValue 7 = .ok (.aload_n 0, 1) := by decide +kernel
theorem dX6_versionValue_8 : decode cX6_versionValue 8 = .ok (.iload 4, 2) := by decide +kernel
theorem dX6_versionValue_10 : decode cX6_versionValue 10 = .ok (.invokevirtual 237, 3) := by decide +kernel
theorem dX6_versionValue_13 : decode cX6_versionValue 13 = .ok (.aload_n 0, 1) := by decide +kernel
theorem dX6_versionValue_14 : decode cX6_versionValue 14 = .ok (.aload_n 0, 1) := by decide +kernel
theorem dX6_versionValue_15 : decode cX6_versionValue 15 = .ok (.getfield 54, 3) := by decide +kernel
theorem dX6_versionValue_18 : decode cX6_versionValue 18 = .ok (.iload 4, 2) := by decide +kernel
theorem dX6_versionValue_20 : decode cX6_versionValue 20 = .ok (.invokevirtual 243, 3) := by decide +kernel
theorem dX6_versionValue_23 : decode cX6_versionValue 23 = .ok (.invokevirtual 110, 3) := by decide +kernel
theorem dX6_versionValue_26 : decode cX6_versionValue 26 = .ok (.aload_n 0, 1) := by decide +kernel
theorem dX6_versionValue_27 : decode cX6_versionValue 27 = .ok (.getfield 54, 3) := by decide +kernel
theorem dX6_versionValue_30 : decode cX6_versionValue 30 = .ok (.iload 4, 2) := by decide +kernel
theorem dX6_versionValue_32 : decode cX6_versionValue 32 = .ok (.invokevirtual 244, 3) := by decide +kernel
theorem dX6_versionValue_35 : decode cX6_versionValue 35 = .ok (.ireturn, 1) := by decide +kernel
theorem dX6_writePeriods_0 : decode cX6_writePeriods 0 = .ok (.aload_n 0, 1) := by decide +kernel
theorem dX6_writePeriods_1 : decode cX6_writePeriods 1 = .ok (.iload_n 1, 1) := by decide +kernel
theorem dX6_writePeriods_2 : decode cX6_writePeriods 2 = .ok (.iload_n 2, 1) := by decide +kernel
theorem dX6_writePeriods_3 : decode cX6_writePeriods 3 = .ok (.iload_n 3, 1) := by decide +kernel
theorem dX6_writePeriods_4 : decode cX6_writePeriods 4 = .ok (.invokevirtual 175, 3) := by decide +kernel
theorem dX6_writePeriods_7 : decode cX6_writePeriods 7 = .ok (.aload_n 0, 1) := by decide +kernel
theorem dX6_writePeriods_8 : decode cX6_writePeriods 8 = .ok (.getfield 26, 3) := by decide +kernel
theorem dX6_writePeriods_11 : decode cX6_writePeriods 11 = .ok (.aload_n 0, 1) := by decide +kernel
theorem dX6_writePeriods_12 : decode cX6_writePeriods 12 = .ok (.getfield 47, 3) := by decide +kernel
theorem dX6_writePeriods_15 : decode cX6_writePeriods 15 = .ok (.aload_n 0, 1) := by decide +kernel
theorem dX6_writePeriods_16 : decode cX6_writePeriods 16 = .ok (.getfield 37, 3) := by decide +kernel
theorem dX6_writePeriods_19 : decode cX6_writePeriods 19 = .ok (.invokevirtual 245, 3) := by decide +kernel
theorem dX6_writePeriods_22 : decode cX6_writePeriods 22 = .ok (.aload_n 0, 1) := by decide +kernel
theorem dX6_writePeriods_23 : decode cX6_writePeriods 23 = .ok (.getfield 26, 3) := by decide +kernel
theorem dX6_writePeriods_26 : decode cX6_writePeriods 26 = .ok (.invokevirtual 249, 3) := by decide +kernel
theorem dX6_writePeriods_29 : decode cX6_writePeriods 29 = .ok (.ireturn, 1) := by decide +kernel
theorem dX6_lineAt_0 : decode cX6_lineAt 0 = .ok (.iload_n 1, 1) := by decide +kernel
theorem dX6_lineAt_1 : decode cX6_lineAt 1 = .ok (.ifCond .lt 14, 3) := by decide +kernel
theorem dX6_lineAt_4 : decode cX6_lineAt 4 = .ok (.iload_n 1, 1) := by decide +kernel
theorem dX6_lineAt_5 : decode cX6_lineAt 5 = .ok (.aload_n 0, 1) := by decide +kernel
theorem dX6_lineAt_6 : decode cX6_lineAt 6 = .ok (.getfield 26, 3) := by decide +kernel
theorem dX6_lineAt_9 : decode cX6_lineAt 9 = .ok (.invokevirtual 249, 3) := by decide +kernel
theorem dX6_lineAt_12 : decode cX6_lineAt 12 = .ok (.if_icmp .lt 13, 3) := by decide +kernel
theorem dX6_lineAt_15 : decode cX6_lineAt 15 = .ok (.new 250, 3) := by decide +kernel
theorem dX6_lineAt_18 : decode cX6_lineAt 18 = .ok (.dup, 1) := by decide +kernel
theorem dX6_lineAt_19 : decode cX6_lineAt 19 = .ok (.ldc 252, 2) := by decide +kernel
theorem dX6_lineAt_21 : decode cX6_lineAt 21 = .ok (.invokespecial 254, 3) := by decide +kernel
theorem dX6_lineAt_24 : decode cX6_lineAt 24 = .ok (.athrow, 1) := by decide +kernel
theorem dX6_lineAt_25 : decode cX6_lineAt 25 = .ok (.aload_n 0, 1) := by decide +kernel
theorem dX6_lineAt_26 : decode cX6_lineAt 26 = .ok (.getfield 26, 3) := by decide +kernel
theorem dX6_lineAt_29 : decode cX6_lineAt 29 = .ok (.iload_n 1, 1) := by decide +kernel
theorem dX6_lineAt_30 : decode cX6_lineAt 30 = .ok (.invokevirtual 255, 3) := by decide +kernel
theorem dX6_lineAt_33 : decode cX6_lineAt 33 = .ok (.ireturn, 1) := by decide +kernel
theorem dX6_isConsistent_0 : decode cX6_isConsistent 0 = .ok (.iconst 0, 1) := by decide +kernel
theorem dX6_isConsistent_1 : decode cX6_isConsistent 1 = .ok (.istore_n 1, 1) := by decide +kernel
theorem dX6_isConsistent_2 : decode cX6_isConsistent 2 = .ok (.iload_n 1, 1) := by decide +kernel
theorem dX6_isConsistent_3 : decode cX6_isConsistent 3 = .ok (.aload_n 0, 1) := by decide +kernel
theorem dX6_isConsistent_4 : decode cX6_isConsistent 4 = .ok (.getfield 30, 3) := by decide +kernel
theorem dX6_isConsistent_7 : decode cX6_isConsistent 7 = .ok (.iconst 3, 1) := by decide +kernel
theorem dX6_isConsistent_8 : decode cX6_isConsistent 8 = .ok (.imul, 1) := by decide +kernel
theorem dX6_isConsistent_9 : decode cX6_isConsistent 9 = .ok (.if_icmp .ge 19, 3) := by decide +kernel
theorem dX6_isConsistent_12 : decode cX6_isConsistent 12 = .ok (.aload_n 0, 1) := by decide +kernel
theorem dX6_isConsistent_13 : decode cX6_isConsistent 13 = .ok (.iload_n 1, 1) := by decide +kernel
theorem dX6_isConsistent_14 : decode cX6_isConsistent 14 = .ok (.invokevirtual 258, 3) := by decide +kernel
theorem dX6_isConsistent_17 : decode cX6_isConsistent 17 = .ok (.ifCond .ne 5, 3) := by decide +kernel
theorem dX6_isConsistent_20 : decode cX6_isConsistent 20 = .ok (.iconst 0, 1) := by decide +kernel
theorem dX6_isConsistent_21 : decode cX6_isConsistent 21 = .ok (.ireturn, 1) := by decide +kernel
theorem dX6_isConsistent_22 : decode cX6_isConsistent 22 = .ok (.iinc 1 1, 3) := by decide +kernel
theorem dX6_isConsistent_25 : decode cX6_isConsistent 25 = .ok (.goto (-23), 3) := by decide +kernel
theorem dX6_isConsistent_28 : decode cX6_isConsistent 28 = .ok (.iconst 1, 1) := by decide +kernel
theorem dX6_isConsistent_29 : decode cX6_isConsistent 29 = .ok (.ireturn, 1) := by decide +kernel
theorem dX6_slotOf_0 : decode cX6_slotOf 0 = .ok (.iload_n 0, 1) := by decide +kernel
theorem dX6_slotOf_1 : decode cX6_slotOf 1 = .ok (.iconst 3, 1) := by decide +kernel
theorem dX6_slotOf_2 : decode cX6_slotOf 2 = .ok (.imul, 1) := by decide +kernel
theorem dX6_slotOf_3 : decode cX6_slotOf 3 = .ok (.iload_n 1, 1) := by decide +kernel
theorem dX6_slotOf_4 : decode cX6_slotOf 4 = .ok (.iadd, 1) := by decide +kernel
theorem dX6_slotOf_5 : decode cX6_slotOf 5 = .ok (.ireturn, 1) := by decide +kernel
theorem dX6_believe_0 : decode cX6_believe 0 = .ok (.aload_n 0, 1) := by decide +kernel
theorem dX6_believe_1 : decode cX6_believe 1 = .ok (.getfield 12, 3) := by decide +kernel
theorem dX6_believe_4 : decode cX6_believe 4 = .ok (.iload_n 1, 1) := by decide +kernel
theorem dX6_believe_5 : decode cX6_believe 5 = .ok (.iload_n 2, 1) := by decide +kernel
theorem dX6_believe_6 : decode cX6_believe 6 = .ok (.iload_n 3, 1) := by decide +kernel
theorem dX6_believe_7 : decode cX6_believe 7 = .ok (.iload 4, 2) := by decide +kernel
theorem dX6_believe_9 : decode cX6_believe 9 = .ok (.iload 5, 2) := by decide +kernel
theorem dX6_believe_11 : decode cX6_believe 11 = .ok (.invokevirtual 96, 3) := by decide +kernel
theorem dX6_believe_14 : decode cX6_believe 14 = .ok (.istore 6, 2) := by decide +kernel
theorem dX6_believe_16 : decode cX6_believe 16 = .ok (.aload_n 0, 1) := by decide +kernel
theorem dX6_believe_17 : decode cX6_believe 17 = .ok (.getfield 19, 3) := by decide +kernel
theorem dX6_believe_20 : decode cX6_believe 20 = .ok (.iload_n 2, 1) := by decide +kernel
theorem dX6_believe_21 : decode cX6_believe 21 = .ok (.iload 4, 2) := by decide +kernel
theorem dX6_believe_23 : decode cX6_believe 23 = .ok (.iload 5, 2) := by decide +kernel
theorem dX6_believe_25 : decode cX6_believe 25 = .ok (.iload 6, 2) := by decide +kernel
theorem dX6_believe_27 : decode cX6_believe 27 = .ok (.invokevirtual 99, 3) := by decide +kernel
theorem dX6_believe_30 : decode cX6_believe 30 = .ok (.istore 7, 2) := by decide +kernel
theorem dX6_believe_32 : decode cX6_believe 32 = .ok (.aload_n 0, 1) := by decide +kernel
theorem dX6_believe_33 : decode cX6_believe 33 = .ok (.getfield 19, 3) := by decide +kernel
theorem dX6_believe_36 : decode cX6_believe 36 = .ok (.iload_n 2, 1) := by decide +kernel
theorem dX6_believe_37 : decode cX6_believe 37 = .ok (.iload_n 3, 1) := by decide +kernel
theorem dX6_believe_38 : decode cX6_believe 38 = .ok (.iload 4, 2) := by decide +kernel
theorem dX6_believe_40 : decode cX6_believe 40 = .ok (.iload 5, 2) := by decide +kernel
theorem dX6_believe_42 : decode cX6_believe 42 = .ok (.iload 6, 2) := by decide +kernel
theorem dX6_believe_44 : decode cX6_believe 44 = .ok (.invokevirtual 261, 3) := by decide +kernel
theorem dX6_believe_47 : decode cX6_believe 47 = .ok (.iload 7, 2) := by decide +kernel
theorem dX6_believe_49 : decode cX6_believe 49 = .ok (.ireturn, 1) := by decide +kernel
theorem dX6_listPeriods_0 : decode cX6_listPeriods 0 = .ok (.aload_n 0, 1) := by decide +kernel
theorem dX6_listPeriods_1 : decode cX6_listPeriods 1 = .ok (.iload_n 1, 1) := by decide +kernel
theorem dX6_listPeriods_2 : decode cX6_listPeriods 2 = .ok (.iload_n 2, 1) := by decide +kernel
theorem dX6_listPeriods_3 : decode cX6_listPeriods 3 = .ok (.iload_n 1, 1) := by decide +kernel
theorem dX6_listPeriods_4 : decode cX6_listPeriods 4 = .ok (.iload_n 2, 1) := by decide +kernel
theorem dX6_listPeriods_5 : decode cX6_listPeriods 5 = .ok (.iload_n 3, 1) := by decide +kernel
theorem dX6_listPeriods_6 : decode cX6_listPeriods 6 = .ok (.invokevirtual 220, 3) := by decide +kernel
theorem dX6_listPeriods_9 : decode cX6_listPeriods 9 = .ok (.return_, 1) := by decide +kernel
theorem dX6_listJointPeriods_0 : decode cX6_listJointPeriods 0 = .ok (.aload_n 0, 1) := by decide +kernel
theorem dX6_listJointPeriods_1 : decode cX6_listJointPeriods 1 = .ok (.iload_n 1, 1) := by decide +kernel
theorem dX6_listJointPeriods_2 : decode cX6_listJointPeriods 2 = .ok (.iload_n 2, 1) := by decide +kernel
theorem dX6_listJointPeriods_3 : decode cX6_listJointPeriods 3 = .ok (.iload_n 3, 1) := by decide +kernel
theorem dX6_listJointPeriods_4 : decode cX6_listJointPeriods 4 = .ok (.iload 4, 2) := by decide +kernel
theorem dX6_listJointPeriods_6 : decode cX6_listJointPeriods 6 = .ok (.iload 5, 2) := by decide +kernel
theorem dX6_listJointPeriods_8 : decode cX6_listJointPeriods 8 = .ok (.invokevirtual 224, 3) := by decide +kernel
theorem dX6_listJointPeriods_11 : decode cX6_listJointPeriods 11 = .ok (.aload_n 0, 1) := by decide +kernel
theorem dX6_listJointPeriods_12 : decode cX6_listJointPeriods 12 = .ok (.getfield 47, 3) := by decide +kernel
theorem dX6_listJointPeriods_15 : decode cX6_listJointPeriods 15 = .ok (.aload_n 0, 1) := by decide +kernel
theorem dX6_listJointPeriods_16 : decode cX6_listJointPeriods 16 = .ok (.getfield 37, 3) := by decide +kernel
theorem dX6_listJointPeriods_19 : decode cX6_listJointPeriods 19 = .ok (.aload_n 0, 1) := by decide +kernel
theorem dX6_listJointPeriods_20 : decode cX6_listJointPeriods 20 = .ok (.getfield 41, 3) := by decide +kernel
theorem dX6_listJointPeriods_23 : decode cX6_listJointPeriods 23 = .ok (.invokevirtual 264, 3) := by decide +kernel
theorem dX6_listJointPeriods_26 : decode cX6_listJointPeriods 26 = .ok (.return_, 1) := by decide +kernel
theorem dX6_readBoth_0 : decode cX6_readBoth 0 = .ok (.aload_n 0, 1) := by decide +kernel
theorem dX6_readBoth_1 : decode cX6_readBoth 1 = .ok (.iload_n 1, 1) := by decide +kernel
theorem dX6_readBoth_2 : decode cX6_readBoth 2 = .ok (.iload_n 2, 1) := by decide +kernel
theorem dX6_readBoth_3 : decode cX6_readBoth 3 = .ok (.invokevirtual 65, 3) := by decide +kernel
theorem dX6_readBoth_6 : decode cX6_readBoth 6 = .ok (.aload_n 0, 1) := by decide +kernel
theorem dX6_readBoth_7 : decode cX6_readBoth 7 = .ok (.iload_n 3, 1) := by decide +kernel
theorem dX6_readBoth_8 : decode cX6_readBoth 8 = .ok (.iload 4, 2) := by decide +kernel
theorem dX6_readBoth_10 : decode cX6_readBoth 10 = .ok (.invokevirtual 65, 3) := by decide +kernel
theorem dX6_readBoth_13 : decode cX6_readBoth 13 = .ok (.aload_n 0, 1) := by decide +kernel
theorem dX6_readBoth_14 : decode cX6_readBoth 14 = .ok (.iload 5, 2) := by decide +kernel
theorem dX6_readBoth_16 : decode cX6_readBoth 16 = .ok (.invokevirtual 172, 3) := by decide +kernel
theorem dX6_readBoth_19 : decode cX6_readBoth 19 = .ok (.aload_n 0, 1) := by decide +kernel
theorem dX6_readBoth_20 : decode cX6_readBoth 20 = .ok (.getfield 19, 3) := by decide +kernel
theorem dX6_readBoth_23 : decode cX6_readBoth 23 = .ok (.aload_n 0, 1) := by decide +kernel
theorem dX6_readBoth_24 : decode cX6_readBoth 24 = .ok (.getfield 37, 3) := by decide +kernel
theorem dX6_readBoth_27 : decode cX6_readBoth 27 = .ok (.iload_n 1, 1) := by decide +kernel
theorem dX6_readBoth_28 : decode cX6_readBoth 28 = .ok (.iload_n 2, 1) := by decide +kernel
theorem dX6_readBoth_29 : decode cX6_readBoth 29 = .ok (.invokestatic 75, 3) := by decide +kernel
theorem dX6_readBoth_32 : decode cX6_readBoth 32 = .ok (.iload 5, 2) := by decide +kernel
theorem dX6_readBoth_34 : decode cX6_readBoth 34 = .ok (.invokevirtual 187, 3) := by decide +kernel
theorem dX6_readBoth_37 : decode cX6_readBoth 37 = .ok (.aload_n 0, 1) := by decide +kernel
theorem dX6_readBoth_38 : decode cX6_readBoth 38 = .ok (.getfield 19, 3) := by decide +kernel
theorem dX6_readBoth_41 : decode cX6_readBoth 41 = .ok (.aload_n 0, 1) := by decide +kernel
theorem dX6_readBoth_42 : decode cX6_readBoth 42 = .ok (.getfield 41, 3) := by decide +kernel
theorem dX6_readBoth_45 : decode cX6_readBoth 45 = .ok (.iload_n 3, 1) := by decide +kernel
theorem dX6_readBoth_46 : decode cX6_readBoth 46 = .ok (.iload 4, 2) := by decide +kernel
theorem dX6_readBoth_48 : decode cX6_readBoth 48 = .ok (.invokestatic 75, 3) := by decide +kernel
theorem dX6_readBoth_51 : decode cX6_readBoth 51 = .ok (.iload 5, 2) := by decide +kernel
theorem dX6_readBoth_53 : decode cX6_readBoth 53 = .ok (.invokevirtual 187, 3) := by decide +kernel
theorem dX6_readBoth_56 : decode cX6_readBoth 56 = .ok (.return_, 1) := by decide +kernel
theorem dX6_listVersions_0 : decode cX6_listVersions 0 = .ok (.aload_n 0, 1) := by decide +kernel
theorem dX6_listVersions_1 : decode cX6_listVersions 1 = .ok (.iload_n 1, 1) := by decide +kernel
theorem dX6_listVersions_2 : decode cX6_listVersions 2 = .ok (.iload_n 2, 1) := by decide +kernel
theorem dX6_listVersions_3 : decode cX6_listVersions 3 = .ok (.invokevirtual 65, 3) := by decide +kernel
theorem dX6_listVersions_6 : decode cX6_listVersions 6 = .ok (.aload_n 0, 1) := by decide +kernel
theorem dX6_listVersions_7 : decode cX6_listVersions 7 = .ok (.iload_n 3, 1) := by decide +kernel
theorem dX6_listVersions_8 : decode cX6_listVersions 8 = .ok (.invokevirtual 102, 3) := by decide +kernel
theorem dX6_listVersions_11 : decode cX6_listVersions 11 = .ok (.aload_n 0, 1) := by decide +kernel
theorem dX6_listVersions_12 : decode cX6_listVersions 12 = .ok (.getfield 54, 3) := by decide +kernel
theorem dX6_listVersions_15 : decode cX6_listVersions 15 = .ok (.aload_n 0, 1) := by decide +kernel
theorem dX6_listVersions_16 : decode cX6_listVersions 16 = .ok (.getfield 19, 3) := by decide +kernel
theorem dX6_listVersions_19 : decode cX6_listVersions 19 = .ok (.iload_n 1, 1) := by decide +kernel
theorem dX6_listVersions_20 : decode cX6_listVersions 20 = .ok (.iload_n 2, 1) := by decide +kernel
theorem dX6_listVersions_21 : decode cX6_listVersions 21 = .ok (.invokestatic 75, 3) := by decide +kernel
theorem dX6_listVersions_24 : decode cX6_listVersions 24 = .ok (.iload_n 3, 1) := by decide +kernel
theorem dX6_listVersions_25 : decode cX6_listVersions 25 = .ok (.aload_n 0, 1) := by decide +kernel
theorem dX6_listVersions_26 : decode cX6_listVersions 26 = .ok (.getfield 12, 3) := by decide +kernel
theorem dX6_listVersions_29 : decode cX6_listVersions 29 = .ok (.invokevirtual 83, 3) := by decide +kernel
theorem dX6_listVersions_32 : decode cX6_listVersions 32 = .ok (.invokevirtual 268, 3) := by decide +kernel
theorem dX6_listVersions_35 : decode cX6_listVersions 35 = .ok (.return_, 1) := by decide +kernel
theorem dX6_isSlotConsistent_0 : decode cX6_isSlotConsistent 0 = .ok (.aload_n 0, 1) := by decide +kernel
theorem dX6_isSlotConsistent_1 : decode cX6_isSlotConsistent 1 = .ok (.getfield 12, 3) := by decide +kernel
theorem dX6_isSlotConsistent_4 : decode cX6_isSlotConsistent 4 = .ok (.invokevirtual 83, 3) := by decide +kernel
theorem dX6_isSlotConsistent_7 : decode cX6_isSlotConsistent 7 = .ok (.istore_n 2, 1) := by decide +kernel
theorem dX6_isSlotConsistent_8 : decode cX6_isSlotConsistent 8 = .ok (.aload_n 0, 1) := by decide +kernel
theorem dX6_isSlotConsistent_9 : decode cX6_isSlotConsistent 9 = .ok (.getfield 19, 3) := by decide +kernel
theorem dX6_isSlotConsistent_12 : decode cX6_isSlotConsistent 12 = .ok (.aload_n 0, 1) := by decide +kernel
theorem dX6_isSlotConsistent_13 : decode cX6_isSlotConsistent 13 = .ok (.getfield 37, 3) := by decide +kernel
theorem dX6_isSlotConsistent_16 : decode cX6_isSlotConsistent 16 = .ok (.iload_n 1, 1) := by decide +kernel
theorem dX6_isSlotConsistent_17 : decode cX6_isSlotConsistent 17 = .ok (.iload_n 2, 1) := by decide +kernel
theorem dX6_isSlotConsistent_18 : decode cX6_isSlotConsistent 18 = .ok (.invokevirtual 187, 3) := by decide +kernel
theorem dX6_isSlotConsistent_21 : decode cX6_isSlotConsistent 21 = .ok (.aload_n 0, 1) := by decide +kernel
theorem dX6_isSlotConsistent_22 : decode cX6_isSlotConsistent 22 = .ok (.getfield 12, 3) := by decide +kernel
theorem dX6_isSlotConsistent_25 : decode cX6_isSlotConsistent 25 = .ok (.aload_n 0, 1) := by decide +kernel
theorem dX6_isSlotConsistent_26 : decode cX6_isSlotConsistent 26 = .ok (.getfield 41, 3) := by decide +kernel
theorem dX6_isSlotConsistent_29 : decode cX6_isSlotConsistent 29 = .ok (.iload_n 1, 1) := by decide +kernel
theorem dX6_isSlotConsistent_30 : decode cX6_isSlotConsistent 30 = .ok (.iload_n 2, 1) := by decide +kernel
theorem dX6_isSlotConsistent_31 : decode cX6_isSlotConsistent 31 = .ok (.invokevirtual 163, 3) := by decide +kernel
theorem dX6_isSlotConsistent_34 : decode cX6_isSlotConsistent 34 = .ok (.aload_n 0, 1) := by decide +kernel
theorem dX6_isSlotConsistent_35 : decode cX6_isSlotConsistent 35 = .ok (.getfield 19, 3) := by decide +kernel
theorem dX6_isSlotConsistent_38 : decode cX6_isSlotConsistent 38 = .ok (.iload_n 1, 1) := by decide +kernel
theorem dX6_isSlotConsistent_39 : decode cX6_isSlotConsistent 39 = .ok (.iconst 0, 1) := by decide +kernel
theorem dX6_isSlotConsistent_40 : decode cX6_isSlotConsistent 40 = .ok (.bipush 100, 2) := by decide +kernel
theorem dX6_isSlotConsistent_42 : decode cX6_isSlotConsistent 42 = .ok (.iload_n 2, 1) := by decide +kernel
theorem dX6_isSlotConsistent_43 : decode cX6_isSlotConsistent 43 = .ok (.invokevirtual 87, 3) := by decide +kernel
theorem dX6_isSlotConsistent_46 : decode cX6_isSlotConsistent 46 = .ok (.aload_n 0, 1) := by decide +kernel
theorem dX6_isSlotConsistent_47 : decode cX6_isSlotConsistent 47 = .ok (.getfield 37, 3) := by decide +kernel
theorem dX6_isSlotConsistent_50 : decode cX6_isSlotConsistent 50 = .ok (.aload_n 0, 1) := by decide +kernel
theorem dX6_isSlotConsistent_51 : decode cX6_isSlotConsistent 51 = .ok (.getfield 37, 3) := by decide +kernel
theorem dX6_isSlotConsistent_54 : decode cX6_isSlotConsistent 54 = .ok (.invokevirtual 227, 3) := by decide +kernel
theorem dX6_isSlotConsistent_57 : decode cX6_isSlotConsistent 57 = .ok (.if_icmp .ne 21, 3) := by decide +kernel
theorem dX6_isSlotConsistent_60 : decode cX6_isSlotConsistent 60 = .ok (.aload_n 0, 1) := by decide +kernel
theorem dX6_isSlotConsistent_61 : decode cX6_isSlotConsistent 61 = .ok (.getfield 37, 3) := by decide +kernel
theorem dX6_isSlotConsistent_64 : decode cX6_isSlotConsistent 64 = .ok (.aload_n 0, 1) := by decide +kernel
theorem dX6_isSlotConsistent_65 : decode cX6_isSlotConsistent 65 = .ok (.getfield 41, 3) := by decide +kernel
theorem dX6_isSlotConsistent_68 : decode cX6_isSlotConsistent 68 = .ok (.invokevirtual 200, 3) := by decide +kernel
theorem dX6_isSlotConsistent_71 : decode cX6_isSlotConsistent 71 = .ok (.ifCond .ne 7, 3) := by decide +kernel
theorem dX6_isSlotConsistent_74 : decode cX6_isSlotConsistent 74 = .ok (.iconst 1, 1) := by decide +kernel
theorem dX6_isSlotConsistent_75 : decode cX6_isSlotConsistent 75 = .ok (.goto 4, 3) := by decide +kernel
theorem dX6_isSlotConsistent_78 : decode cX6_isSlotConsistent 78 = .ok (.iconst 0, 1) := by decide +kernel
theorem dX6_isSlotConsistent_79 : decode cX6_isSlotConsistent 79 = .ok (.ireturn, 1) := by decide +kernel
theorem dX6_requireAttribute_0 : decode cX6_requireAttribute 0 = .ok (.iload_n 1, 1) := by decide +kernel
theorem dX6_requireAttribute_1 : decode cX6_requireAttribute 1 = .ok (.ifCond .lt 11, 3) := by decide +kernel
theorem dX6_requireAttribute_4 : decode cX6_requireAttribute 4 = .ok (.iload_n 1, 1) := by decide +kernel
theorem dX6_requireAttribute_5 : decode cX6_requireAttribute 5 = .ok (.aload_n 0, 1) := by decide +kernel
theorem dX6_requireAttribute_6 : decode cX6_requireAttribute 6 = .ok (.getfield 30, 3) := by decide +kernel
theorem dX6_requireAttribute_9 : decode cX6_requireAttribute 9 = .ok (.if_icmp .lt 14, 3) := by decide +kernel
theorem dX6_requireAttribute_12 : decode cX6_requireAttribute 12 = .ok (.new 250, 3) := by decide +kernel
theorem dX6_requireAttribute_15 : decode cX6_requireAttribute 15 = .ok (.dup, 1) := by decide +kernel
theorem dX6_requireAttribute_16 : decode cX6_requireAttribute 16 = .ok (.ldc_w 271, 3) := by decide +kernel
theorem dX6_requireAttribute_19 : decode cX6_requireAttribute 19 = .ok (.invokespecial 254, 3) := by decide +kernel
theorem dX6_requireAttribute_22 : decode cX6_requireAttribute 22 = .ok (.athrow, 1) := by decide +kernel
theorem dX6_requireAttribute_23 : decode cX6_requireAttribute 23 = .ok (.aload_n 0, 1) := by decide +kernel
theorem dX6_requireAttribute_24 : decode cX6_requireAttribute 24 = .ok (.iload_n 2, 1) := by decide +kernel
theorem dX6_requireAttribute_25 : decode cX6_requireAttribute 25 = .ok (.invokevirtual 204, 3) := by decide +kernel
theorem dX6_requireAttribute_28 : decode cX6_requireAttribute 28 = .ok (.return_, 1) := by decide +kernel
theorem dX6_requireAttributeNumber_0 : decode cX6_requireAttributeNumber 0 = .ok (.iload_n 1, 1) := by decide +kernel
theorem dX6_requireAttributeNumber_1 : decode cX6_requireAttributeNumber 1 = .ok (.ifCond .lt 8, 3) := by decide +kernel
theorem dX6_requireAttributeNumber_4 : decode cX6_requireAttributeNumber 4 = .ok (.iload_n 1, 1) := by decide +kernel
theorem dX6_requireAttributeNumber_5 : decode cX6_requireAttributeNumber 5 = .ok (.iconst 3, 1) := by decide +kernel
theorem dX6_requireAttributeNumber_6 : decode cX6_requireAttributeNumber 6 = .ok (.if_icmp .lt 14, 3) := by decide +kernel
theorem dX6_requireAttributeNumber_9 : decode cX6_requireAttributeNumber 9 = .ok (.new 250, 3) := by decide +kernel
theorem dX6_requireAttributeNumber_12 : decode cX6_requireAttributeNumber 12 = .ok (.dup, 1) := by decide +kernel
theorem dX6_requireAttributeNumber_13 : decode cX6_requireAttributeNumber 13 = .ok (.ldc_w 273, 3) := by decide +kernel
theorem dX6_requireAttributeNumber_16 : decode cX6_requireAttributeNumber 16 = .ok (.invokespecial 254, 3) := by decide +kernel
theorem dX6_requireAttributeNumber_19 : decode cX6_requireAttributeNumber 19 = .ok (.athrow, 1) := by decide +kernel
theorem dX6_requireAttributeNumber_20 : decode cX6_requireAttributeNumber 20 = .ok (.return_, 1) := by decide +kernel
theorem dX6_requireDay_0 : decode cX6_requireDay 0 = .ok (.iload_n 1, 1) := by decide +kernel
theorem dX6_requireDay_1 : decode cX6_requireDay 1 = .ok (.ifCond .lt 9, 3) := by decide +kernel
theorem dX6_requireDay_4 : decode cX6_requireDay 4 = .ok (.iload_n 1, 1) := by decide +kernel
theorem dX6_requireDay_5 : decode cX6_requireDay 5 = .ok (.bipush 100, 2) := by decide +kernel
theorem dX6_requireDay_7 : decode cX6_requireDay 7 = .ok (.if_icmp .lt 14, 3) := by decide +kernel
theorem dX6_requireDay_10 : decode cX6_requireDay 10 = .ok (.new 152, 3) := by decide +kernel
theorem dX6_requireDay_13 : decode cX6_requireDay 13 = .ok (.dup, 1) := by decide +kernel
theorem dX6_requireDay_14 : decode cX6_requireDay 14 = .ok (.ldc_w 275, 3) := by decide +kernel
theorem dX6_requireDay_17 : decode cX6_requireDay 17 = .ok (.invokespecial 156, 3) := by decide +kernel
theorem dX6_requireDay_20 : decode cX6_requireDay 20 = .ok (.athrow, 1) := by decide +kernel
theorem dX6_requireDay_21 : decode cX6_requireDay 21 = .ok (.return_, 1) := by decide +kernel
theorem dX6_requireDays_0 : decode cX6_requireDays 0 = .ok (.iload_n 1, 1) := by decide +kernel
theorem dX6_requireDays_1 : decode cX6_requireDays 1 = .ok (.ifCond .lt 14, 3) := by decide +kernel
theorem dX6_requireDays_4 : decode cX6_requireDays 4 = .ok (.iload_n 2, 1) := by decide +kernel
theorem dX6_requireDays_5 : decode cX6_requireDays 5 = .ok (.iload_n 1, 1) := by decide +kernel
theorem dX6_requireDays_6 : decode cX6_requireDays 6 = .ok (.if_icmp .le 9, 3) := by decide +kernel
theorem dX6_requireDays_9 : decode cX6_requireDays 9 = .ok (.iload_n 2, 1) := by decide +kernel
theorem dX6_requireDays_10 : decode cX6_requireDays 10 = .ok (.bipush 100, 2) := by decide +kernel
theorem dX6_requireDays_12 : decode cX6_requireDays 12 = .ok (.if_icmp .le 14, 3) := by decide +kernel
theorem dX6_requireDays_15 : decode cX6_requireDays 15 = .ok (.new 152, 3) := by decide +kernel
theorem dX6_requireDays_18 : decode cX6_requireDays 18 = .ok (.dup, 1) := by decide +kernel
theorem dX6_requireDays_19 : decode cX6_requireDays 19 = .ok (.ldc_w 277, 3) := by decide +kernel
theorem dX6_requireDays_22 : decode cX6_requireDays 22 = .ok (.invokespecial 156, 3) := by decide +kernel
theorem dX6_requireDays_25 : decode cX6_requireDays 25 = .ok (.athrow, 1) := by decide +kernel
theorem dX6_requireDays_26 : decode cX6_requireDays 26 = .ok (.return_, 1) := by decide +kernel
theorem dX6_requireFreeTick_0 : decode cX6_requireFreeTick 0 = .ok (.aload_n 0, 1) := by decide +kernel
theorem dX6_requireFreeTick_1 : decode cX6_requireFreeTick 1 = .ok (.getfield 12, 3) := by decide +kernel
theorem dX6_requireFreeTick_4 : decode cX6_requireFreeTick 4 = .ok (.invokevirtual 279, 3) := by decide +kernel
theorem dX6_requireFreeTick_7 : decode cX6_requireFreeTick 7 = .ok (.ifCond .eq 14, 3) := by decide +kernel
theorem dX6_requireFreeTick_10 : decode cX6_requireFreeTick 10 = .ok (.new 58, 3) := by decide +kernel
theorem dX6_requireFreeTick_13 : decode cX6_requireFreeTick 13 = .ok (.dup, 1) := by decide +kernel
theorem dX6_requireFreeTick_14 : decode cX6_requireFreeTick 14 = .ok (.ldc_w 283, 3) := by decide +kernel
theorem dX6_requireFreeTick_17 : decode cX6_requireFreeTick 17 = .ok (.invokespecial 62, 3) := by decide +kernel
theorem dX6_requireFreeTick_20 : decode cX6_requireFreeTick 20 = .ok (.athrow, 1) := by decide +kernel
theorem dX6_requireFreeTick_21 : decode cX6_requireFreeTick 21 = .ok (.return_, 1) := by decide +kernel
theorem dX6_requireOperation_0 : decode cX6_requireOperation 0 = .ok (.iload_n 1, 1) := by decide +kernel
theorem dX6_requireOperation_1 : decode cX6_requireOperation 1 = .ok (.iconst 1, 1) := by decide +kernel
theorem dX6_requireOperation_2 : decode cX6_requireOperation 2 = .ok (.if_icmp .lt 14, 3) := by decide +kernel
theorem dX6_requireOperation_5 : decode cX6_requireOperation 5 = .ok (.iload_n 1, 1) := by decide +kernel
theorem dX6_requireOperation_6 : decode cX6_requireOperation 6 = .ok (.aload_n 0, 1) := by decide +kernel
theorem dX6_requireOperation_7 : decode cX6_requireOperation 7 = .ok (.getfield 12, 3) := by decide +kernel
theorem dX6_requireOperation_10 : decode cX6_requireOperation 10 = .ok (.invokevirtual 83, 3) := by decide +kernel
theorem dX6_requireOperation_13 : decode cX6_requireOperation 13 = .ok (.if_icmp .le 13, 3) := by decide +kernel
theorem dX6_requireOperation_16 : decode cX6_requireOperation 16 = .ok (.new 152, 3) := by decide +kernel
theorem dX6_requireOperation_19 : decode cX6_requireOperation 19 = .ok (.dup, 1) := by decide +kernel
theorem dX6_requireOperation_20 : decode cX6_requireOperation 20 = .ok (.ldc 154, 2) := by decide +kernel
theorem dX6_requireOperation_22 : decode cX6_requireOperation 22 = .ok (.invokespecial 156, 3) := by decide +kernel
theorem dX6_requireOperation_25 : decode cX6_requireOperation 25 = .ok (.athrow, 1) := by decide +kernel
theorem dX6_requireOperation_26 : decode cX6_requireOperation 26 = .ok (.return_, 1) := by decide +kernel
theorem dX6_requireTick_0 : decode cX6_requireTick 0 = .ok (.iload_n 1, 1) := by decide +kernel
theorem dX6_requireTick_1 : decode cX6_requireTick 1 = .ok (.ifCond .lt 14, 3) := by decide +kernel
theorem dX6_requireTick_4 : decode cX6_requireTick 4 = .ok (.iload_n 1, 1) := by decide +kernel
theorem dX6_requireTick_5 : decode cX6_requireTick 5 = .ok (.aload_n 0, 1) := by decide +kernel
theorem dX6_requireTick_6 : decode cX6_requireTick 6 = .ok (.getfield 12, 3) := by decide +kernel
theorem dX6_requireTick_9 : decode cX6_requireTick 9 = .ok (.invokevirtual 83, 3) := by decide +kernel
theorem dX6_requireTick_12 : decode cX6_requireTick 12 = .ok (.if_icmp .le 13, 3) := by decide +kernel
theorem dX6_requireTick_15 : decode cX6_requireTick 15 = .ok (.new 152, 3) := by decide +kernel
theorem dX6_requireTick_18 : decode cX6_requireTick 18 = .ok (.dup, 1) := by decide +kernel
theorem dX6_requireTick_19 : decode cX6_requireTick 19 = .ok (.ldc 154, 2) := by decide +kernel
theorem dX6_requireTick_21 : decode cX6_requireTick 21 = .ok (.invokespecial 156, 3) := by decide +kernel
theorem dX6_requireTick_24 : decode cX6_requireTick 24 = .ok (.athrow, 1) := by decide +kernel
theorem dX6_requireTick_25 : decode cX6_requireTick 25 = .ok (.return_, 1) := by decide +kernel
theorem dX6_requireKept_0 : decode cX6_requireKept 0 = .ok (.iload_n 1, 1) := by decide +kernel
theorem dX6_requireKept_1 : decode cX6_requireKept 1 = .ok (.aload_n 0, 1) := by decide +kernel
theorem dX6_requireKept_2 : decode cX6_requireKept 2 = .ok (.getfield 19, 3) := by decide +kernel
theorem dX6_requireKept_5 : decode cX6_requireKept 5 = .ok (.invokevirtual 149, 3) := by decide +kernel
theorem dX6_requireKept_8 : decode cX6_requireKept 8 = .ok (.if_icmp .ge 14, 3) := by decide +kernel
theorem dX6_requireKept_11 : decode cX6_requireKept 11 = .ok (.new 285, 3) := by decide +kernel
theorem dX6_requireKept_14 : decode cX6_requireKept 14 = .ok (.dup, 1) := by decide +kernel
theorem dX6_requireKept_15 : decode cX6_requireKept 15 = .ok (.ldc_w 287, 3) := by decide +kernel
theorem dX6_requireKept_18 : decode cX6_requireKept 18 = .ok (.invokespecial 289, 3) := by decide +kernel
theorem dX6_requireKept_21 : decode cX6_requireKept 21 = .ok (.athrow, 1) := by decide +kernel
theorem dX6_requireKept_22 : decode cX6_requireKept 22 = .ok (.return_, 1) := by decide +kernel
theorem dX6_requireKeptTick_0 : decode cX6_requireKeptTick 0 = .ok (.aload_n 0, 1) := by decide +kernel
theorem dX6_requireKeptTick_1 : decode cX6_requireKeptTick 1 = .ok (.iload_n 1, 1) := by decide +kernel
theorem dX6_requireKeptTick_2 : decode cX6_requireKeptTick 2 = .ok (.invokevirtual 194, 3) := by decide +kernel
theorem dX6_requireKeptTick_5 : decode cX6_requireKeptTick 5 = .ok (.aload_n 0, 1) := by decide +kernel
theorem dX6_requireKeptTick_6 : decode cX6_requireKeptTick 6 = .ok (.iload_n 1, 1) := by decide +kernel
theorem dX6_requireKeptTick_7 : decode cX6_requireKeptTick 7 = .ok (.invokevirtual 197, 3) := by decide +kernel
theorem dX6_requireKeptTick_10 : decode cX6_requireKeptTick 10 = .ok (.return_, 1) := by decide +kernel
theorem dX6_requireDayAndTick_0 : decode cX6_requireDayAndTick 0 = .ok (.aload_n 0, 1) := by decide +kernel
theorem dX6_requireDayAndTick_1 : decode cX6_requireDayAndTick 1 = .ok (.iload_n 1, 1) := by decide +kernel
theorem dX6_requireDayAndTick_2 : decode cX6_requireDayAndTick 2 = .ok (.invokevirtual 102, 3) := by decide +kernel
theorem dX6_requireDayAndTick_5 : decode cX6_requireDayAndTick 5 = .ok (.aload_n 0, 1) := by decide +kernel
theorem dX6_requireDayAndTick_6 : decode cX6_requireDayAndTick 6 = .ok (.iload_n 2, 1) := by decide +kernel
theorem dX6_requireDayAndTick_7 : decode cX6_requireDayAndTick 7 = .ok (.invokevirtual 172, 3) := by decide +kernel
theorem dX6_requireDayAndTick_10 : decode cX6_requireDayAndTick 10 = .ok (.return_, 1) := by decide +kernel
theorem dX6_requireFact_0 : decode cX6_requireFact 0 = .ok (.aload_n 0, 1) := by decide +kernel
theorem dX6_requireFact_1 : decode cX6_requireFact 1 = .ok (.getfield 19, 3) := by decide +kernel
theorem dX6_requireFact_4 : decode cX6_requireFact 4 = .ok (.iload_n 1, 1) := by decide +kernel
theorem dX6_requireFact_5 : decode cX6_requireFact 5 = .ok (.invokevirtual 290, 3) := by decide +kernel
theorem dX6_requireFact_8 : decode cX6_requireFact 8 = .ok (.ifCond .ne 14, 3) := by decide +kernel
theorem dX6_requireFact_11 : decode cX6_requireFact 11 = .ok (.new 91, 3) := by decide +kernel
theorem dX6_requireFact_14 : decode cX6_requireFact 14 = .ok (.dup, 1) := by decide +kernel
theorem dX6_requireFact_15 : decode cX6_requireFact 15 = .ok (.ldc_w 293, 3) := by decide +kernel
theorem dX6_requireFact_18 : decode cX6_requireFact 18 = .ok (.invokespecial 95, 3) := by decide +kernel
theorem dX6_requireFact_21 : decode cX6_requireFact 21 = .ok (.athrow, 1) := by decide +kernel
theorem dX6_requireFact_22 : decode cX6_requireFact 22 = .ok (.return_, 1) := by decide +kernel
theorem dX6_requireKnown_0 : decode cX6_requireKnown 0 = .ok (.iload_n 1, 1) := by decide +kernel
theorem dX6_requireKnown_1 : decode cX6_requireKnown 1 = .ok (.ifCond .ne 14, 3) := by decide +kernel
theorem dX6_requireKnown_4 : decode cX6_requireKnown 4 = .ok (.new 91, 3) := by decide +kernel
theorem dX6_requireKnown_7 : decode cX6_requireKnown 7 = .ok (.dup, 1) := by decide +kernel
theorem dX6_requireKnown_8 : decode cX6_requireKnown 8 = .ok (.ldc_w 295, 3) := by decide +kernel
theorem dX6_requireKnown_11 : decode cX6_requireKnown 11 = .ok (.invokespecial 95, 3) := by decide +kernel
theorem dX6_requireKnown_14 : decode cX6_requireKnown 14 = .ok (.athrow, 1) := by decide +kernel
theorem dX6_requireKnown_15 : decode cX6_requireKnown 15 = .ok (.return_, 1) := by decide +kernel
theorem dX6_requirePeriod_0 : decode cX6_requirePeriod 0 = .ok (.iload_n 1, 1) := by decide +kernel
theorem dX6_requirePeriod_1 : decode cX6_requirePeriod 1 = .ok (.ifCond .lt 14, 3) := by decide +kernel
theorem dX6_requirePeriod_4 : decode cX6_requirePeriod 4 = .ok (.iload_n 1, 1) := by decide +kernel
theorem dX6_requirePeriod_5 : decode cX6_requirePeriod 5 = .ok (.aload_n 0, 1) := by decide +kernel
theorem dX6_requirePeriod_6 : decode cX6_requirePeriod 6 = .ok (.getfield 47, 3) := by decide +kernel
theorem dX6_requirePeriod_9 : decode cX6_requirePeriod 9 = .ok (.invokevirtual 179, 3) := by decide +kernel
theorem dX6_requirePeriod_12 : decode cX6_requirePeriod 12 = .ok (.if_icmp .lt 14, 3) := by decide +kernel
theorem dX6_requirePeriod_15 : decode cX6_requirePeriod 15 = .ok (.new 91, 3) := by decide +kernel
theorem dX6_requirePeriod_18 : decode cX6_requirePeriod 18 = .ok (.dup, 1) := by decide +kernel
theorem dX6_requirePeriod_19 : decode cX6_requirePeriod 19 = .ok (.ldc_w 297, 3) := by decide +kernel
theorem dX6_requirePeriod_22 : decode cX6_requirePeriod 22 = .ok (.invokespecial 95, 3) := by decide +kernel
theorem dX6_requirePeriod_25 : decode cX6_requirePeriod 25 = .ok (.athrow, 1) := by decide +kernel
theorem dX6_requirePeriod_26 : decode cX6_requirePeriod 26 = .ok (.return_, 1) := by decide +kernel
theorem dX6_requireVersion_0 : decode cX6_requireVersion 0 = .ok (.iload_n 1, 1) := by decide +kernel
theorem dX6_requireVersion_1 : decode cX6_requireVersion 1 = .ok (.ifCond .lt 14, 3) := by decide +kernel
theorem dX6_requireVersion_4 : decode cX6_requireVersion 4 = .ok (.iload_n 1, 1) := by decide +kernel
theorem dX6_requireVersion_5 : decode cX6_requireVersion 5 = .ok (.aload_n 0, 1) := by decide +kernel
theorem dX6_requireVersion_6 : decode cX6_requireVersion 6 = .ok (.getfield 54, 3) := by decide +kernel
theorem dX6_requireVersion_9 : decode cX6_requireVersion 9 = .ok (.invokevirtual 236, 3) := by decide +kernel
theorem dX6_requireVersion_12 : decode cX6_requireVersion 12 = .ok (.if_icmp .lt 14, 3) := by decide +kernel
theorem dX6_requireVersion_15 : decode cX6_requireVersion 15 = .ok (.new 91, 3) := by decide +kernel
theorem dX6_requireVersion_18 : decode cX6_requireVersion 18 = .ok (.dup, 1) := by decide +kernel
theorem dX6_requireVersion_19 : decode cX6_requireVersion 19 = .ok (.ldc_w 299, 3) := by decide +kernel
theorem dX6_requireVersion_22 : decode cX6_requireVersion 22 = .ok (.invokespecial 95, 3) := by decide +kernel
theorem dX6_requireVersion_25 : decode cX6_requireVersion 25 = .ok (.athrow, 1) := by decide +kernel
theorem dX6_requireVersion_26 : decode cX6_requireVersion 26 = .ok (.return_, 1) := by decide +kernel
theorem dX7_init_0 : decode cX7_init 0 = .ok (.aload_n 0, 1) := by decide +kernel
theorem dX7_init_1 : decode cX7_init 1 = .ok (.invokespecial 1, 3) := by decide +kernel
theorem dX7_init_4 : decode cX7_init 4 = .ok (.aload_n 0, 1) := by decide +kernel
theorem dX7_init_5 : decode cX7_init 5 = .ok (.bipush 61, 2) := by decide +kernel
theorem dX7_init_7 : decode cX7_init 7 = .ok (.newarray .char, 2) := by decide +kernel
theorem dX7_init_9 : decode cX7_init 9 = .ok (.putfield 9, 3) := by decide +kernel
theorem dX7_init_12 : decode cX7_init 12 = .ok (.aload_n 0, 1) := by decide +kernel
theorem dX7_init_13 : decode cX7_init 13 = .ok (.bipush 61, 2) := by decide +kernel
theorem dX7_init_15 : decode cX7_init 15 = .ok (.newarray .int, 2) := by decide +kernel
theorem dX7_init_17 : decode cX7_init 17 = .ok (.putfield 13, 3) := by decide +kernel
theorem dX7_init_20 : decode cX7_init 20 = .ok (.aload_n 0, 1) := by decide +kernel
theorem dX7_init_21 : decode cX7_init 21 = .ok (.sipush 256, 3) := by decide +kernel
theorem dX7_init_24 : decode cX7_init 24 = .ok (.newarray .int, 2) := by decide +kernel
theorem dX7_init_26 : decode cX7_init 26 = .ok (.putfield 17, 3) := by decide +kernel
theorem dX7_init_29 : decode cX7_init 29 = .ok (.aload_n 0, 1) := by decide +kernel
theorem dX7_init_30 : decode cX7_init 30 = .ok (.sipush 256, 3) := by decide +kernel
theorem dX7_init_33 : decode cX7_init 33 = .ok (.newarray .int, 2) := by decide +kernel
theorem dX7_init_35 : decode cX7_init 35 = .ok (.putfield 20, 3) := by decide +kernel
theorem dX7_init_38 : decode cX7_init 38 = .ok (.aload_n 0, 1) := by decide +kernel
theorem dX7_init_39 : decode cX7_init 39 = .ok (.sipush 256, 3) := by decide +kernel
theorem dX7_init_42 : decode cX7_init 42 = .ok (.newarray .int, 2) := by decide +kernel
theorem dX7_init_44 : decode cX7_init 44 = .ok (.putfield 23, 3) := by decide +kernel
theorem dX7_init_47 : decode cX7_init 47 = .ok (.aload_n 0, 1) := by decide +kernel
theorem dX7_init_48 : decode cX7_init 48 = .ok (.sipush 256, 3) := by decide +kernel
theorem dX7_init_51 : decode cX7_init 51 = .ok (.newarray .int, 2) := by decide +kernel
theorem dX7_init_53 : decode cX7_init 53 = .ok (.putfield 26, 3) := by decide +kernel
theorem dX7_init_56 : decode cX7_init 56 = .ok (.aload_n 0, 1) := by decide +kernel
theorem dX7_init_57 : decode cX7_init 57 = .ok (.sipush 256, 3) := by decide +kernel
theorem dX7_init_60 : decode cX7_init 60 = .ok (.newarray .int, 2) := by decide +kernel
theorem dX7_init_62 : decode cX7_init 62 = .ok (.putfield 29, 3) := by decide +kernel
theorem dX7_init_65 : decode cX7_init 65 = .ok (.aload_n 0, 1) := by decide +kernel
theorem dX7_init_66 : decode cX7_init 66 = .ok (.sipush 256, 3) := by decide +kernel
theorem dX7_init_69 : decode cX7_init 69 = .ok (.newarray .int, 2) := by decide +kernel
theorem dX7_init_71 : decode cX7_init 71 = .ok (.putfield 32, 3) := by decide +kernel
theorem dX7_init_74 : decode cX7_init 74 = .ok (.aload_n 0, 1) := by decide +kernel
theorem dX7_init_75 : decode cX7_init 75 = .ok (.sipush 256, 3) := by decide +kernel
theorem dX7_init_78 : decode cX7_init 78 = .ok (.newarray .boolean, 2) := by decide +kernel
theorem dX7_init_80 : decode cX7_init 80 = .ok (.putfield 35, 3) := by decide +kernel
theorem dX7_init_83 : decode cX7_init 83 = .ok (.aload_n 0, 1) := by decide +kernel
theorem dX7_init_84 : decode cX7_init 84 = .ok (.bipush 100, 2) := by decide +kernel
theorem dX7_init_86 : decode cX7_init 86 = .ok (.newarray .int, 2) := by decide +kernel
theorem dX7_init_88 : decode cX7_init 88 = .ok (.putfield 39, 3) := by decide +kernel
theorem dX7_init_91 : decode cX7_init 91 = .ok (.aload_n 0, 1) := by decide +kernel
theorem dX7_init_92 : decode cX7_init 92 = .ok (.bipush 100, 2) := by decide +kernel
theorem dX7_init_94 : decode cX7_init 94 = .ok (.newarray .int, 2) := by decide +kernel
theorem dX7_init_96 : decode cX7_init 96 = .ok (.putfield 42, 3) := by decide +kernel
theorem dX7_init_99 : decode cX7_init 99 = .ok (.aload_n 0, 1) := by decide +kernel
theorem dX7_init_100 : decode cX7_init 100 = .ok (.bipush 100, 2) := by decide +kernel
theorem dX7_init_102 : decode cX7_init 102 = .ok (.newarray .int, 2) := by decide +kernel
theorem dX7_init_104 : decode cX7_init 104 = .ok (.putfield 45, 3) := by decide +kernel
theorem dX7_init_107 : decode cX7_init 107 = .ok (.aload_n 0, 1) := by decide +kernel
theorem dX7_init_108 : decode cX7_init 108 = .ok (.bipush 100, 2) := by decide +kernel
theorem dX7_init_110 : decode cX7_init 110 = .ok (.newarray .int, 2) := by decide +kernel
theorem dX7_init_112 : decode cX7_init 112 = .ok (.putfield 48, 3) := by decide +kernel
theorem dX7_init_115 : decode cX7_init 115 = .ok (.aload_n 0, 1) := by decide +kernel
theorem dX7_init_116 : decode cX7_init 116 = .ok (.sipush 3000, 3) := by decide +kernel
theorem dX7_init_119 : decode cX7_init 119 = .ok (.newarray .char, 2) := by decide +kernel
theorem dX7_init_121 : decode cX7_init 121 = .ok (.putfield 51, 3) := by decide +kernel
theorem dX7_init_124 : decode cX7_init 124 = .ok (.aload_n 0, 1) := by decide +kernel
theorem dX7_init_125 : decode cX7_init 125 = .ok (.bipush 61, 2) := by decide +kernel
theorem dX7_init_127 : decode cX7_init 127 = .ok (.newarray .int, 2) := by decide +kernel
theorem dX7_init_129 : decode cX7_init 129 = .ok (.putfield 54, 3) := by decide +kernel
theorem dX7_init_132 : decode cX7_init 132 = .ok (.aload_n 0, 1) := by decide +kernel
theorem dX7_init_133 : decode cX7_init 133 = .ok (.bipush 61, 2) := by decide +kernel
theorem dX7_init_135 : decode cX7_init 135 = .ok (.newarray .int, 2) := by decide +kernel
theorem dX7_init_137 : decode cX7_init 137 = .ok (.putfield 57, 3) := by decide +kernel
theorem dX7_init_140 : decode cX7_init 140 = .ok (.return_, 1) := by decide +kernel
theorem dX7_thrown_0 : decode cX7_thrown 0 = .ok (.aload_n 0, 1) := by decide +kernel
theorem dX7_thrown_1 : decode cX7_thrown 1 = .ok (.getfield 60, 3) := by decide +kernel
theorem dX7_thrown_4 : decode cX7_thrown 4 = .ok (.ireturn, 1) := by decide +kernel
theorem dX7_in_0 : decode cX7_in 0 = .ok (.iload_n 0, 1) := by decide +kernel
theorem dX7_in_1 : decode cX7_in 1 = .ok (.iload_n 1, 1) := by decide +kernel
theorem dX7_in_2 : decode cX7_in 2 = .ok (.if_icmp .lt 12, 3) := by decide +kernel
theorem dX7_in_5 : decode cX7_in 5 = .ok (.iload_n 0, 1) := by decide +kernel
theorem dX7_in_6 : decode cX7_in 6 = .ok (.iload_n 2, 1) := by decide +kernel
theorem dX7_in_7 : decode cX7_in 7 = .ok (.if_icmp .gt 7, 3) := by decide +kernel
theorem dX7_in_10 : decode cX7_in 10 = .ok (.iconst 1, 1) := by decide +kernel
theorem dX7_in_11 : decode cX7_in 11 = .ok (.goto 4, 3) := by decide +kernel
theorem dX7_in_14 : decode cX7_in 14 = .ok (.iconst 0, 1) := by decide +kernel
theorem dX7_in_15 : decode cX7_in 15 = .ok (.ireturn, 1) := by decide +kernel
theorem dX7_goesOn_0 : decode cX7_goesOn 0 = .ok (.aload_n 0, 1) := by decide +kernel
theorem dX7_goesOn_1 : decode cX7_goesOn 1 = .ok (.iload_n 1, 1) := by decide +kernel
theorem dX7_goesOn_2 : decode cX7_goesOn 2 = .ok (.putfield 60, 3) := by decide +kernel
theorem dX7_goesOn_5 : decode cX7_goesOn 5 = .ok (.iload_n 1, 1) := by decide +kernel
theorem dX7_goesOn_6 : decode cX7_goesOn 6 = .ok (.ifCond .ne 7, 3) := by decide +kernel
theorem dX7_goesOn_9 : decode cX7_goesOn 9 = .ok (.iconst 1, 1) := by decide +kernel
theorem dX7_goesOn_10 : decode cX7_goesOn 10 = .ok (.goto 4, 3) := by decide +kernel
theorem dX7_goesOn_13 : decode cX7_goesOn 13 = .ok (.iconst 0, 1) := by decide +kernel
theorem dX7_goesOn_14 : decode cX7_goesOn 14 = .ok (.ireturn, 1) := by decide +kernel
theorem dX7_isPlace_0 : decode cX7_isPlace 0 = .ok (.iload_n 1, 1) := by decide +kernel
theorem dX7_isPlace_1 : decode cX7_isPlace 1 = .ok (.iconst 0, 1) := by decide +kernel
theorem dX7_isPlace_2 : decode cX7_isPlace 2 = .ok (.aload_n 0, 1) := by decide +kernel
theorem dX7_isPlace_3 : decode cX7_isPlace 3 = .ok (.getfield 64, 3) := by decide +kernel
theorem dX7_isPlace_6 : decode cX7_isPlace 6 = .ok (.iconst 1, 1) := by decide +kernel
theorem dX7_isPlace_7 : decode cX7_isPlace 7 = .ok (.isub, 1) := by decide +kernel
theorem dX7_isPlace_8 : decode cX7_isPlace 8 = .ok (.invokestatic 67, 3) := by decide +kernel
theorem dX7_isPlace_11 : decode cX7_isPlace 11 = .ok (.ifCond .eq 16, 3) := by decide +kernel
theorem dX7_isPlace_14 : decode cX7_isPlace 14 = .ok (.iload_n 2, 1) := by decide +kernel
theorem dX7_isPlace_15 : decode cX7_isPlace 15 = .ok (.iconst 0, 1) := by decide +kernel
theorem dX7_isPlace_16 : decode cX7_isPlace 16 = .ok (.iconst 2, 1) := by decide +kernel
theorem dX7_isPlace_17 : decode cX7_isPlace 17 = .ok (.invokestatic 67, 3) := by decide +kernel
theorem dX7_isPlace_20 : decode cX7_isPlace 20 = .ok (.ifCond .eq 7, 3) := by decide +kernel
theorem dX7_isPlace_23 : decode cX7_isPlace 23 = .ok (.iconst 1, 1) := by decide +kernel
theorem dX7_isPlace_24 : decode cX7_isPlace 24 = .ok (.goto 4, 3) := by decide +kernel
theorem dX7_isPlace_27 : decode cX7_isPlace 27 = .ok (.iconst 0, 1) := by decide +kernel
theorem dX7_isPlace_28 : decode cX7_isPlace 28 = .ok (.ireturn, 1) := by decide +kernel
theorem dX7_placeOf_0 : decode cX7_placeOf 0 = .ok (.iconst 3, 1) := by decide +kernel
theorem dX7_placeOf_1 : decode cX7_placeOf 1 = .ok (.iload_n 0, 1) := by decide +kernel
theorem dX7_placeOf_2 : decode cX7_placeOf 2 = .ok (.imul, 1) := by decide +kernel
theorem dX7_placeOf_3 : decode cX7_placeOf 3 = .ok (.iload_n 1, 1) := by decide +kernel
theorem dX7_placeOf_4 : decode cX7_placeOf 4 = .ok (.iadd, 1) := by decide +kernel
theorem dX7_placeOf_5 : decode cX7_placeOf 5 = .ok (.ireturn, 1) := by decide +kernel
theorem dX7_areDays_0 : decode cX7_areDays 0 = .ok (.iload_n 0, 1) := by decide +kernel
theorem dX7_areDays_1 : decode cX7_areDays 1 = .ok (.ifCond .lt 18, 3) := by decide +kernel
theorem dX7_areDays_4 : decode cX7_areDays 4 = .ok (.iload_n 1, 1) := by decide +kernel
theorem dX7_areDays_5 : decode cX7_areDays 5 = .ok (.iload_n 0, 1) := by decide +kernel
theorem dX7_areDays_6 : decode cX7_areDays 6 = .ok (.if_icmp .le 13, 3) := by decide +kernel
theorem dX7_areDays_9 : decode cX7_areDays 9 = .ok (.iload_n 1, 1) := by decide +kernel
theorem dX7_areDays_10 : decode cX7_areDays 10 = .ok (.bipush 100, 2) := by decide +kernel
theorem dX7_areDays_12 : decode cX7_areDays 12 = .ok (.if_icmp .gt 7, 3) := by decide +kernel
theorem dX7_areDays_15 : decode cX7_areDays 15 = .ok (.iconst 1, 1) := by decide +kernel
theorem dX7_areDays_16 : decode cX7_areDays 16 = .ok (.goto 4, 3) := by decide +kernel
theorem dX7_areDays_19 : decode cX7_areDays 19 = .ok (.iconst 0, 1) := by decide +kernel
theorem dX7_areDays_20 : decode cX7_areDays 20 = .ok (.ireturn, 1) := by decide +kernel
theorem dX7_isOpen_0 : decode cX7_isOpen 0 = .ok (.aload_n 0, 1) := by decide +kernel
theorem dX7_isOpen_1 : decode cX7_isOpen 1 = .ok (.getfield 35, 3) := by decide +kernel
theorem dX7_isOpen_4 : decode cX7_isOpen 4 = .ok (.iload_n 1, 1) := by decide +kernel
theorem dX7_isOpen_5 : decode cX7_isOpen 5 = .ok (.baload, 1) := by decide +kernel
theorem dX7_isOpen_6 : decode cX7_isOpen 6 = .ok (.ifCond .ne 17, 3) := by decide +kernel
theorem dX7_isOpen_9 : decode cX7_isOpen 9 = .ok (.aload_n 0, 1) := by decide +kernel
theorem dX7_isOpen_10 : decode cX7_isOpen 10 = .ok (.getfield 32, 3) := by decide +kernel
theorem dX7_isOpen_13 : decode cX7_isOpen 13 = .ok (.iload_n 1, 1) := by decide +kernel
theorem dX7_isOpen_14 : decode cX7_isOpen 14 = .ok (.iaload, 1) := by decide +kernel
theorem dX7_isOpen_15 : decode cX7_isOpen 15 = .ok (.iconst (-1), 1) := by decide +kernel
theorem dX7_isOpen_16 : decode cX7_isOpen 16 = .ok (.if_icmp .ne 7, 3) := by decide +kernel
theorem dX7_isOpen_19 : decode cX7_isOpen 19 = .ok (.iconst 1, 1) := by decide +kernel
theorem dX7_isOpen_20 : decode cX7_isOpen 20 = .ok (.goto 4, 3) := by decide +kernel
theorem dX7_isOpen_23 : decode cX7_isOpen 23 = .ok (.iconst 0, 1) := by decide +kernel
theorem dX7_isOpen_24 : decode cX7_isOpen 24 = .ok (.ireturn, 1) := by decide +kernel
theorem dX7_addEntity_0 : decode cX7_addEntity 0 = .ok (.aload_n 0, 1) := by decide +kernel
theorem dX7_addEntity_1 : decode cX7_addEntity 1 = .ok (.aload_n 0, 1) := by decide +kernel
theorem dX7_addEntity_2 : decode cX7_addEntity 2 = .ok (.getfield 64, 3) := by decide +kernel
theorem dX7_addEntity_5 : decode cX7_addEntity 5 = .ok (.bipush 6, 2) := by decide +kernel
theorem dX7_addEntity_7 : decode cX7_addEntity 7 = .ok (.if_icmp .ne 7, 3) := by decide +kernel
theorem dX7_addEntity_10 : decode cX7_addEntity 10 = .ok (.iconst 1, 1) := by decide +kernel
theorem dX7_addEntity_11 : decode cX7_addEntity 11 = .ok (.goto 4, 3) := by decide +kernel
theorem dX7_addEntity_14 : decode cX7_addEntity 14 = .ok (.iconst 0, 1) := by decide +kernel
theorem dX7_addEntity_15 : decode cX7_addEntity 15 = .ok (.invokevirtual 71, 3) := by decide +kernel
theorem dX7_addEntity_18 : decode cX7_addEntity 18 = .ok (.ifCond .ne 5, 3) := by decide +kernel
theorem dX7_addEntity_21 : decode cX7_addEntity 21 = .ok (.iconst 0, 1) := by decide +kernel
theorem dX7_addEntity_22 : decode cX7_addEntity 22 = .ok (.ireturn, 1) := by decide +kernel
theorem dX7_addEntity_23 : decode cX7_addEntity 23 = .ok (.aload_n 0, 1) := by decide +kernel
theorem dX7_addEntity_24 : decode cX7_addEntity 24 = .ok (.dup, 1) := by decide +kernel
theorem dX7_addEntity_25 : decode cX7_addEntity 25 = .ok (.getfield 64, 3) := by decide +kernel
theorem dX7_addEntity_28 : decode cX7_addEntity 28 = .ok (.iconst 1, 1) := by decide +kernel
theorem dX7_addEntity_29 : decode cX7_addEntity 29 = .ok (.iadd, 1) := by decide +kernel
theorem dX7_addEntity_30 : decode cX7_addEntity 30 = .ok (.putfield 64, 3) := by decide +kernel
theorem dX7_addEntity_33 : decode cX7_addEntity 33 = .ok (.aload_n 0, 1) := by decide +kernel
theorem dX7_addEntity_34 : decode cX7_addEntity 34 = .ok (.getfield 64, 3) := by decide +kernel
theorem dX7_addEntity_37 : decode cX7_addEntity 37 = .ok (.iconst 1, 1) := by decide +kernel
theorem dX7_addEntity_38 : decode cX7_addEntity 38 = .ok (.isub, 1) := by decide +kernel
theorem dX7_addEntity_39 : decode cX7_addEntity 39 = .ok (.ireturn, 1) := by decide +kernel
theorem dX7_entityCount_0 : decode cX7_entityCount 0 = .ok (.aload_n 0, 1) := by decide +kernel
theorem dX7_entityCount_1 : decode cX7_entityCount 1 = .ok (.iconst 0, 1) := by decide +kernel
theorem dX7_entityCount_2 : decode cX7_entityCount 2 = .ok (.putfield 60, 3) := by decide +kernel
theorem dX7_entityCount_5 : decode cX7_entityCount 5 = .ok (.aload_n 0, 1) := by decide +kernel
theorem dX7_entityCount_6 : decode cX7_entityCount 6 = .ok (.getfield 64, 3) := by decide +kernel
theorem dX7_entityCount_9 : decode cX7_entityCount 9 = .ok (.ireturn, 1) := by decide +kernel
theorem dX7_opens_0 : decode cX7_opens 0 = .ok (.aload_n 0, 1) := by decide +kernel
theorem dX7_opens_1 : decode cX7_opens 1 = .ok (.getfield 17, 3) := by decide +kernel
theorem dX7_opens_4 : decode cX7_opens 4 = .ok (.aload_n 0, 1) := by decide +kernel
theorem dX7_opens_5 : decode cX7_opens 5 = .ok (.getfield 75, 3) := by decide +kernel
theorem dX7_opens_8 : decode cX7_opens 8 = .ok (.iload_n 1, 1) := by decide +kernel
theorem dX7_opens_9 : decode cX7_opens 9 = .ok (.iastore, 1) := by decide +kernel
theorem dX7_opens_10 : decode cX7_opens 10 = .ok (.aload_n 0, 1) := by decide +kernel
theorem dX7_opens_11 : decode cX7_opens 11 = .ok (.getfield 20, 3) := by decide +kernel
theorem dX7_opens_14 : decode cX7_opens 14 = .ok (.aload_n 0, 1) := by decide +kernel
theorem dX7_opens_15 : decode cX7_opens 15 = .ok (.getfield 75, 3) := by decide +kernel
theorem dX7_opens_18 : decode cX7_opens 18 = .ok (.iload_n 2, 1) := by decide +kernel
theorem dX7_opens_19 : decode cX7_opens 19 = .ok (.iastore, 1) := by decide +kernel
theorem dX7_opens_20 : decode cX7_opens 20 = .ok (.aload_n 0, 1) := by decide +kernel
theorem dX7_opens_21 : decode cX7_opens 21 = .ok (.getfield 23, 3) := by decide +kernel
theorem dX7_opens_24 : decode cX7_opens 24 = .ok (.aload_n 0, 1) := by decide +kernel
theorem dX7_opens_25 : decode cX7_opens 25 = .ok (.getfield 75, 3) := by decide +kernel
theorem dX7_opens_28 : decode cX7_opens 28 = .ok (.iload_n 3, 1) := by decide +kernel
theorem dX7_opens_29 : decode cX7_opens 29 = .ok (.iastore, 1) := by decide +kernel
theorem dX7_opens_30 : decode cX7_opens 30 = .ok (.aload_n 0, 1) := by decide +kernel
theorem dX7_opens_31 : decode cX7_opens 31 = .ok (.getfield 26, 3) := by decide +kernel
theorem dX7_opens_34 : decode cX7_opens 34 = .ok (.aload_n 0, 1) := by decide +kernel
theorem dX7_opens_35 : decode cX7_opens 35 = .ok (.getfield 75, 3) := by decide +kernel
theorem dX7_opens_38 : decode cX7_opens 38 = .ok (.iload 4, 2) := by decide +kernel
theorem dX7_opens_40 : decode cX7_opens 40 = .ok (.iastore, 1) := by decide +kernel
theorem dX7_opens_41 : decode cX7_opens 41 = .ok (.aload_n 0, 1) := by decide +kernel
theorem dX7_opens_42 : decode cX7_opens 42 = .ok (.getfield 29, 3) := by decide +kernel
theorem dX7_opens_45 : decode cX7_opens 45 = .ok (.aload_n 0, 1) := by decide +kernel
theorem dX7_opens_46 : decode cX7_opens 46 = .ok (.getfield 75, 3) := by decide +kernel
theorem dX7_opens_49 : decode cX7_opens 49 = .ok (.aload_n 0, 1) := by decide +kernel
theorem dX7_opens_50 : decode cX7_opens 50 = .ok (.getfield 78, 3) := by decide +kernel
theorem dX7_opens_53 : decode cX7_opens 53 = .ok (.iastore, 1) := by decide +kernel
theorem dX7_opens_54 : decode cX7_opens 54 = .ok (.aload_n 0, 1) := by decide +kernel
theorem dX7_opens_55 : decode cX7_opens 55 = .ok (.getfield 32, 3) := by decide +kernel
theorem dX7_opens_58 : decode cX7_opens 58 = .ok (.aload_n 0, 1) := by decide +kernel
theorem dX7_opens_59 : decode cX7_opens 59 = .ok (.getfield 75, 3) := by decide +kernel
theorem dX7_opens_62 : decode cX7_opens 62 = .ok (.iconst (-1), 1) := by decide +kernel
theorem dX7_opens_63 : decode cX7_opens 63 = .ok (.iastore, 1) := by decide +kernel
theorem dX7_opens_64 : decode cX7_opens 64 = .ok (.aload_n 0, 1) := by decide +kernel
theorem dX7_opens_65 : decode cX7_opens 65 = .ok (.dup, 1) := by decide +kernel
theorem dX7_opens_66 : decode cX7_opens 66 = .ok (.getfield 75, 3) := by decide +kernel
theorem dX7_opens_69 : decode cX7_opens 69 = .ok (.iconst 1, 1) := by decide +kernel
theorem dX7_opens_70 : decode cX7_opens 70 = .ok (.iadd, 1) := by decide +kernel
theorem dX7_opens_71 : decode cX7_opens 71 = .ok (.putfield 75, 3) := by decide +kernel
theorem dX7_opens_74 : decode cX7_opens 74 = .ok (.return_, 1) := by decide +kernel
theorem dX7_meets_0 : decode cX7_meets 0 = .ok (.iconst (-1), 1) := by decide +kernel
theorem dX7_meets_1 : decode cX7_meets 1 = .ok (.istore 5, 2) := by decide +kernel
theorem dX7_meets_3 : decode cX7_meets 3 = .ok (.iconst 0, 1) := by decide +kernel
theorem dX7_meets_4 : decode cX7_meets 4 = .ok (.istore 6, 2) := by decide +kernel
theorem dX7_meets_6 : decode cX7_meets 6 = .ok (.iload 6, 2) := by decide +kernel
theorem dX7_meets_8 : decode cX7_meets 8 = .ok (.aload_n 0, 1) := by decide +kernel
theorem dX7_meets_9 : decode cX7_meets 9 = .ok (.getfield 75, 3) := by decide +kernel
theorem dX7_meets_12 : decode cX7_meets 12 = .ok (.if_icmp .ge 107, 3) := by decide +kernel
theorem dX7_meets_15 : decode cX7_meets 15 = .ok (.aload_n 0, 1) := by decide +kernel
theorem dX7_meets_16 : decode cX7_meets 16 = .ok (.getfield 17, 3) := by decide +kernel
theorem dX7_meets_19 : decode cX7_meets 19 = .ok (.iload 6, 2) := by decide +kernel
theorem dX7_meets_21 : decode cX7_meets 21 = .ok (.iaload, 1) := by decide +kernel
theorem dX7_meets_22 : decode cX7_meets 22 = .ok (.iload_n 1, 1) := by decide +kernel
theorem dX7_meets_23 : decode cX7_meets 23 = .ok (.if_icmp .ne 50, 3) := by decide +kernel
theorem dX7_meets_26 : decode cX7_meets 26 = .ok (.aload_n 0, 1) := by decide +kernel
theorem dX7_meets_27 : decode cX7_meets 27 = .ok (.iload 6, 2) := by decide +kernel
theorem dX7_meets_29 : decode cX7_meets 29 = .ok (.invokevirtual 81, 3) := by decide +kernel
theorem dX7_meets_32 : decode cX7_meets 32 = .ok (.ifCond .eq 41, 3) := by decide +kernel
theorem dX7_meets_35 : decode cX7_meets 35 = .ok (.aload_n 0, 1) := by decide +kernel
theorem dX7_meets_36 : decode cX7_meets 36 = .ok (.getfield 29, 3) := by decide +kernel
theorem dX7_meets_39 : decode cX7_meets 39 = .ok (.iload 6, 2) := by decide +kernel
theorem dX7_meets_41 : decode cX7_meets 41 = .ok (.iaload, 1) := by decide +kernel
theorem dX7_meets_42 : decode cX7_meets 42 = .ok (.iload 4, 2) := by decide +kernel
theorem dX7_meets_44 : decode cX7_meets 44 = .ok (.if_icmp .ge 29, 3) := by decide +kernel
theorem dX7_meets_47 : decode cX7_meets 47 = .ok (.aload_n 0, 1) := by decide +kernel
theorem dX7_meets_48 : decode cX7_meets 48 = .ok (.getfield 23, 3) := by decide +kernel
theorem dX7_meets_51 : decode cX7_meets 51 = .ok (.iload 6, 2) := by decide +kernel
theorem dX7_meets_53 : decode cX7_meets 53 = .ok (.iaload, 1) := by decide +kernel
theorem dX7_meets_54 : decode cX7_meets 54 = .ok (.iload_n 3, 1) := by decide +kernel
theorem dX7_meets_55 : decode cX7_meets 55 = .ok (.if_icmp .ge 18, 3) := by decide +kernel
theorem dX7_meets_58 : decode cX7_meets 58 = .ok (.aload_n 0, 1) := by decide +kernel
theorem dX7_meets_59 : decode cX7_meets 59 = .ok (.getfield 26, 3) := by decide +kernel
theorem dX7_meets_62 : decode cX7_meets 62 = .ok (.iload 6, 2) := by decide +kernel
theorem dX7_meets_64 : decode cX7_meets 64 = .ok (.iaload, 1) := by decide +kernel
theorem dX7_meets_65 : decode cX7_meets 65 = .ok (.iload_n 2, 1) := by decide +kernel
theorem dX7_meets_66 : decode cX7_meets 66 = .ok (.if_icmp .le 7, 3) := by decide +kernel
theorem dX7_meets_69 : decode cX7_meets 69 = .ok (.iconst 1, 1) := by decide +kernel
theorem dX7_meets_70 : decode cX7_meets 70 = .ok (.goto 4, 3) := by decide +kernel
theorem dX7_meets_73 : decode cX7_meets 73 = .ok (.iconst 0, 1) := by decide +kernel
theorem dX7_meets_74 : decode cX7_meets 74 = .ok (.istore 7, 2) := by decide +kernel
theorem dX7_meets_76 : decode cX7_meets 76 = .ok (.iload 7, 2) := by decide +kernel
theorem dX7_meets_78 : decode cX7_meets 78 = .ok (.ifCond .eq 31, 3) := by decide +kernel
theorem dX7_meets_81 : decode cX7_meets 81 = .ok (.iload 5, 2) := by decide +kernel
theorem dX7_meets_83 : decode cX7_meets 83 = .ok (.iconst (-1), 1) := by decide +kernel
theorem dX7_meets_84 : decode cX7_meets 84 = .ok (.if_icmp .eq 20, 3) := by decide +kernel
theorem dX7_meets_87 : decode cX7_meets 87 = .ok (.aload_n 0, 1) := by decide +kernel
theorem dX7_meets_88 : decode cX7_meets 88 = .ok (.getfield 23, 3) := by decide +kernel
theorem dX7_meets_91 : decode cX7_meets 91 = .ok (.iload 6, 2) := by decide +kernel
theorem dX7_meets_93 : decode cX7_meets 93 = .ok (.iaload, 1) := by decide +kernel
theorem dX7_meets_94 : decode cX7_meets 94 = .ok (.aload_n 0, 1) := by decide +kernel
theorem dX7_meets_95 : decode cX7_meets 95 = .ok (.getfield 23, 3) := by decide +kernel
theorem dX7_meets_98 : decode cX7_meets 98 = .ok (.iload 5, 2) := by decide +kernel
theorem dX7_meets_100 : decode cX7_meets 100 = .ok (.iaload, 1) := by decide +kernel
theorem dX7_meets_101 : decode cX7_meets 101 = .ok (.if_icmp .ge 8, 3) := by decide +kernel
theorem dX7_meets_104 : decode cX7_meets 104 = .ok (.iload 6, 2) := by decide +kernel
theorem dX7_meets_106 : decode cX7_meets 106 = .ok (.goto 5, 3) := by decide +kernel
theorem dX7_meets_109 : decode cX7_meets 109 = .ok (.iload 5, 2) := by decide +kernel
theorem dX7_meets_111 : decode cX7_meets 111 = .ok (.istore 5, 2) := by decide +kernel
theorem dX7_meets_113 : decode cX7_meets 113 = .ok (.iinc 6 1, 3) := by decide +kernel
theorem dX7_meets_116 : decode cX7_meets 116 = .ok (.goto (-110), 3) := by decide +kernel
theorem dX7_meets_119 : decode cX7_meets 119 = .ok (.iload 5, 2) := by decide +kernel
theorem dX7_meets_121 : decode cX7_meets 121 = .ok (.ireturn, 1) := by decide +kernel
theorem dX7_closes_0 : decode cX7_closes 0 = .ok (.iconst 0, 1) := by decide +kernel
theorem dX7_closes_1 : decode cX7_closes 1 = .ok (.istore 4, 2) := by decide +kernel
theorem dX7_closes_3 : decode cX7_closes 3 = .ok (.aload_n 0, 1) := by decide +kernel
theorem dX7_closes_4 : decode cX7_closes 4 = .ok (.iload_n 1, 1) := by decide +kernel
theorem dX7_closes_5 : decode cX7_closes 5 = .ok (.iload_n 2, 1) := by decide +kernel
theorem dX7_closes_6 : decode cX7_closes 6 = .ok (.iload_n 3, 1) := by decide +kernel
theorem dX7_closes_7 : decode cX7_closes 7 = .ok (.aload_n 0, 1) := by decide +kernel
theorem dX7_closes_8 : decode cX7_closes 8 = .ok (.getfield 78, 3) := by decide +kernel
theorem dX7_closes_11 : decode cX7_closes 11 = .ok (.invokevirtual 84, 3) := by decide +kernel
theorem dX7_closes_14 : decode cX7_closes 14 = .ok (.istore 5, 2) := by decide +kernel
theorem dX7_closes_16 : decode cX7_closes 16 = .ok (.iload 5, 2) := by decide +kernel
theorem dX7_closes_18 : decode cX7_closes 18 = .ok (.iconst (-1), 1) := by decide +kernel
theorem dX7_closes_19 : decode cX7_closes 19 = .ok (.if_icmp .eq 95, 3) := by decide +kernel
theorem dX7_closes_22 : decode cX7_closes 22 = .ok (.aload_n 0, 1) := by decide +kernel
theorem dX7_closes_23 : decode cX7_closes 23 = .ok (.getfield 32, 3) := by decide +kernel
theorem dX7_closes_26 : decode cX7_closes 26 = .ok (.iload 5, 2) := by decide +kernel
theorem dX7_closes_28 : decode cX7_closes 28 = .ok (.aload_n 0, 1) := by decide +kernel
theorem dX7_closes_29 : decode cX7_closes 29 = .ok (.getfield 78, 3) := by decide +kernel
theorem dX7_closes_32 : decode cX7_closes 32 = .ok (.iastore, 1) := by decide +kernel
theorem dX7_closes_33 : decode cX7_closes 33 = .ok (.aload_n 0, 1) := by decide +kernel
theorem dX7_closes_34 : decode cX7_closes 34 = .ok (.getfield 23, 3) := by decide +kernel
theorem dX7_closes_37 : decode cX7_closes 37 = .ok (.iload 5, 2) := by decide +kernel
theorem dX7_closes_39 : decode cX7_closes 39 = .ok (.iaload, 1) := by decide +kernel
theorem dX7_closes_40 : decode cX7_closes 40 = .ok (.iload_n 2, 1) := by decide +kernel
theorem dX7_closes_41 : decode cX7_closes 41 = .ok (.if_icmp .ge 23, 3) := by decide +kernel
theorem dX7_closes_44 : decode cX7_closes 44 = .ok (.aload_n 0, 1) := by decide +kernel
theorem dX7_closes_45 : decode cX7_closes 45 = .ok (.iload_n 1, 1) := by decide +kernel
theorem dX7_closes_46 : decode cX7_closes 46 = .ok (.aload_n 0, 1) := by decide +kernel
theorem dX7_closes_47 : decode cX7_closes 47 = .ok (.getfield 20, 3) := by decide +kernel
theorem dX7_closes_50 : decode cX7_closes 50 = .ok (.iload 5, 2) := by decide +kernel
theorem dX7_closes_52 : decode cX7_closes 52 = .ok (.iaload, 1) := by decide +kernel
theorem dX7_closes_53 : decode cX7_closes 53 = .ok (.aload_n 0, 1) := by decide +kernel
theorem dX7_closes_54 : decode cX7_closes 54 = .ok (.getfield 23, 3) := by decide +kernel
theorem dX7_closes_57 : decode cX7_closes 57 = .ok (.iload 5, 2) := by decide +kernel
theorem dX7_closes_59 : decode cX7_closes 59 = .ok (.iaload, 1) := by decide +kernel
theorem dX7_closes_60 : decode cX7_closes 60 = .ok (.iload_n 2, 1) := by decide +kernel
theorem dX7_closes_61 : decode cX7_closes 61 = .ok (.invokevirtual 88, 3) := by decide +kernel
theorem dX7_closes_64 : decode cX7_closes 64 = .ok (.aload_n 0, 1) := by decide +kernel
theorem dX7_closes_65 : decode cX7_closes 65 = .ok (.getfield 26, 3) := by decide +kernel
theorem dX7_closes_68 : decode cX7_closes 68 = .ok (.iload 5, 2) := by decide +kernel
theorem dX7_closes_70 : decode cX7_closes 70 = .ok (.iaload, 1) := by decide +kernel
theorem dX7_closes_71 : decode cX7_closes 71 = .ok (.iload_n 3, 1) := by decide +kernel
theorem dX7_closes_72 : decode cX7_closes 72 = .ok (.if_icmp .le 23, 3) := by decide +kernel
theorem dX7_closes_75 : decode cX7_closes 75 = .ok (.aload_n 0, 1) := by decide +kernel
theorem dX7_closes_76 : decode cX7_closes 76 = .ok (.iload_n 1, 1) := by decide +kernel
theorem dX7_closes_77 : decode cX7_closes 77 = .ok (.aload_n 0, 1) := by decide +kernel
theorem dX7_closes_78 : decode cX7_closes 78 = .ok (.getfield 20, 3) := by decide +kernel
theorem dX7_closes_81 : decode cX7_closes 81 = .ok (.iload 5, 2) := by decide +kernel
theorem dX7_closes_83 : decode cX7_closes 83 = .ok (.iaload, 1) := by decide +kernel
theorem dX7_closes_84 : decode cX7_closes 84 = .ok (.iload_n 3, 1) := by decide +kernel
theorem dX7_closes_85 : decode cX7_closes 85 = .ok (.aload_n 0, 1) := by decide +kernel
theorem dX7_closes_86 : decode cX7_closes 86 = .ok (.getfield 26, 3) := by decide +kernel
theorem dX7_closes_89 : decode cX7_closes 89 = .ok (.iload 5, 2) := by decide +kernel
theorem dX7_closes_91 : decode cX7_closes 91 = .ok (.iaload, 1) := by decide +kernel
theorem dX7_closes_92 : decode cX7_closes 92 = .ok (.invokevirtual 88, 3) := by decide +kernel
theorem dX7_closes_95 : decode cX7_closes 95 = .ok (.iinc 4 1, 3) := by decide +kernel
theorem dX7_closes_98 : decode cX7_closes 98 = .ok (.aload_n 0, 1) := by decide +kernel
theorem dX7_closes_99 : decode cX7_closes 99 = .ok (.iload_n 1, 1) := by decide +kernel
theorem dX7_closes_100 : decode cX7_closes 100 = .ok (.iload_n 2, 1) := by decide +kernel
theorem dX7_closes_101 : decode cX7_closes 101 = .ok (.iload_n 3, 1) := by decide +kernel
theorem dX7_closes_102 : decode cX7_closes 102 = .ok (.aload_n 0, 1) := by decide +kernel
theorem dX7_closes_103 : decode cX7_closes 103 = .ok (.getfield 78, 3) := by decide +kernel
theorem dX7_closes_106 : decode cX7_closes 106 = .ok (.invokevirtual 84, 3) := by decide +kernel
theorem dX7_closes_109 : decode cX7_closes 109 = .ok (.istore 5, 2) := by decide +kernel
theorem dX7_closes_111 : decode cX7_closes 111 = .ok (.goto (-95), 3) := by decide +kernel
theorem dX7_closes_114 : decode cX7_closes 114 = .ok (.iload 4, 2) := by decide +kernel
theorem dX7_closes_116 : decode cX7_closes 116 = .ok (.ireturn, 1) := by decide +kernel
theorem dX7_begins_0 : decode cX7_begins 0 = .ok (.aload_n 0, 1) := by decide +kernel
theorem dX7_begins_1 : decode cX7_begins 1 = .ok (.dup, 1) := by decide +kernel
theorem dX7_begins_2 : decode cX7_begins 2 = .ok (.getfield 78, 3) := by decide +kernel
theorem dX7_begins_5 : decode cX7_begins 5 = .ok (.iconst 1, 1) := by decide +kernel
theorem dX7_begins_6 : decode cX7_begins 6 = .ok (.iadd, 1) := by decide +kernel
theorem dX7_begins_7 : decode cX7_begins 7 = .ok (.putfield 78, 3) := by decide +kernel
theorem dX7_begins_10 : decode cX7_begins 10 = .ok (.aload_n 0, 1) := by decide +kernel
theorem dX7_begins_11 : decode cX7_begins 11 = .ok (.getfield 9, 3) := by decide +kernel
theorem dX7_begins_14 : decode cX7_begins 14 = .ok (.aload_n 0, 1) := by decide +kernel
theorem dX7_begins_15 : decode cX7_begins 15 = .ok (.getfield 78, 3) := by decide +kernel
theorem dX7_begins_18 : decode cX7_begins 18 = .ok (.iload_n 1, 1) := by decide +kernel
theorem dX7_begins_19 : decode cX7_begins 19 = .ok (.castore, 1) := by decide +kernel
theorem dX7_begins_20 : decode cX7_begins 20 = .ok (.aload_n 0, 1) := by decide +kernel
theorem dX7_begins_21 : decode cX7_begins 21 = .ok (.getfield 13, 3) := by decide +kernel
theorem dX7_begins_24 : decode cX7_begins 24 = .ok (.aload_n 0, 1) := by decide +kernel
theorem dX7_begins_25 : decode cX7_begins 25 = .ok (.getfield 78, 3) := by decide +kernel
theorem dX7_begins_28 : decode cX7_begins 28 = .ok (.iload_n 2, 1) := by decide +kernel
theorem dX7_begins_29 : decode cX7_begins 29 = .ok (.iastore, 1) := by decide +kernel
theorem dX7_begins_30 : decode cX7_begins 30 = .ok (.return_, 1) := by decide +kernel
theorem dX7_tell_0 : decode cX7_tell 0 = .ok (.aload_n 0, 1) := by decide +kernel
theorem dX7_tell_1 : decode cX7_tell 1 = .ok (.iload_n 1, 1) := by decide +kernel
theorem dX7_tell_2 : decode cX7_tell 2 = .ok (.iload_n 2, 1) := by decide +kernel
theorem dX7_tell_3 : decode cX7_tell 3 = .ok (.invokevirtual 92, 3) := by decide +kernel
theorem dX7_tell_6 : decode cX7_tell 6 = .ok (.ifCond .ne 7, 3) := by decide +kernel
theorem dX7_tell_9 : decode cX7_tell 9 = .ok (.iconst 1, 1) := by decide +kernel
theorem dX7_tell_10 : decode cX7_tell 10 = .ok (.goto 31, 3) := by decide +kernel
theorem dX7_tell_13 : decode cX7_tell 13 = .ok (.iload 4, 2) := by decide +kernel
theorem dX7_tell_15 : decode cX7_tell 15 = .ok (.iload 5, 2) := by decide +kernel
theorem dX7_tell_17 : decode cX7_tell 17 = .ok (.invokestatic 96, 3) := by decide +kernel
theorem dX7_tell_20 : decode cX7_tell 20 = .ok (.ifCond .ne 7, 3) := by decide +kernel
theorem dX7_tell_23 : decode cX7_tell 23 = .ok (.iconst 2, 1) := by decide +kernel
theorem dX7_tell_24 : decode cX7_tell 24 = .ok (.goto 17, 3) := by decide +kernel
theorem dX7_tell_27 : decode cX7_tell 27 = .ok (.aload_n 0, 1) := by decide +kernel
theorem dX7_tell_28 : decode cX7_tell 28 = .ok (.getfield 78, 3) := by decide +kernel
theorem dX7_tell_31 : decode cX7_tell 31 = .ok (.bipush 60, 2) := by decide +kernel
theorem dX7_tell_33 : decode cX7_tell 33 = .ok (.if_icmp .ne 7, 3) := by decide +kernel
theorem dX7_tell_36 : decode cX7_tell 36 = .ok (.iconst 3, 1) := by decide +kernel
theorem dX7_tell_37 : decode cX7_tell 37 = .ok (.goto 4, 3) := by decide +kernel
theorem dX7_tell_40 : decode cX7_tell 40 = .ok (.iconst 0, 1) := by decide +kernel
theorem dX7_tell_41 : decode cX7_tell 41 = .ok (.istore 6, 2) := by decide +kernel
theorem dX7_tell_43 : decode cX7_tell 43 = .ok (.aload_n 0, 1) := by decide +kernel
theorem dX7_tell_44 : decode cX7_tell 44 = .ok (.iload 6, 2) := by decide +kernel
theorem dX7_tell_46 : decode cX7_tell 46 = .ok (.invokevirtual 71, 3) := by decide +kernel
theorem dX7_tell_49 : decode cX7_tell 49 = .ok (.ifCond .ne 5, 3) := by decide +kernel
theorem dX7_tell_52 : decode cX7_tell 52 = .ok (.iconst 0, 1) := by decide +kernel
theorem dX7_tell_53 : decode cX7_tell 53 = .ok (.ireturn, 1) := by decide +kernel
theorem dX7_tell_54 : decode cX7_tell 54 = .ok (.aload_n 0, 1) := by decide +kernel
theorem dX7_tell_55 : decode cX7_tell 55 = .ok (.bipush 116, 2) := by decide +kernel
theorem dX7_tell_57 : decode cX7_tell 57 = .ok (.iload_n 1, 1) := by decide +kernel
theorem dX7_tell_58 : decode cX7_tell 58 = .ok (.invokevirtual 99, 3) := by decide +kernel
theorem dX7_tell_61 : decode cX7_tell 61 = .ok (.aload_n 0, 1) := by decide +kernel
theorem dX7_tell_62 : decode cX7_tell 62 = .ok (.iload_n 1, 1) := by decide +kernel
theorem dX7_tell_63 : decode cX7_tell 63 = .ok (.iload_n 2, 1) := by decide +kernel
theorem dX7_tell_64 : decode cX7_tell 64 = .ok (.invokestatic 103, 3) := by decide +kernel
theorem dX7_tell_67 : decode cX7_tell 67 = .ok (.iload 4, 2) := by decide +kernel
theorem dX7_tell_69 : decode cX7_tell 69 = .ok (.iload 5, 2) := by decide +kernel
theorem dX7_tell_71 : decode cX7_tell 71 = .ok (.invokevirtual 107, 3) := by decide +kernel
theorem dX7_tell_74 : decode cX7_tell 74 = .ok (.istore 7, 2) := by decide +kernel
theorem dX7_tell_76 : decode cX7_tell 76 = .ok (.aload_n 0, 1) := by decide +kernel
theorem dX7_tell_77 : decode cX7_tell 77 = .ok (.iload_n 1, 1) := by decide +kernel
theorem dX7_tell_78 : decode cX7_tell 78 = .ok (.iload_n 2, 1) := by decide +kernel
theorem dX7_tell_79 : decode cX7_tell 79 = .ok (.invokestatic 103, 3) := by decide +kernel
theorem dX7_tell_82 : decode cX7_tell 82 = .ok (.iload_n 3, 1) := by decide +kernel
theorem dX7_tell_83 : decode cX7_tell 83 = .ok (.iload 4, 2) := by decide +kernel
theorem dX7_tell_85 : decode cX7_tell 85 = .ok (.iload 5, 2) := by decide +kernel
theorem dX7_tell_87 : decode cX7_tell 87 = .ok (.invokevirtual 88, 3) := by decide +kernel
theorem dX7_tell_90 : decode cX7_tell 90 = .ok (.iload 7, 2) := by decide +kernel
theorem dX7_tell_92 : decode cX7_tell 92 = .ok (.ireturn, 1) := by decide +kernel
theorem dX7_retract_0 : decode cX7_retract 0 = .ok (.aload_n 0, 1) := by decide +kernel
theorem dX7_retract_1 : decode cX7_retract 1 = .ok (.iload_n 1, 1) := by decide +kernel
theorem dX7_retract_2 : decode cX7_retract 2 = .ok (.iload_n 2, 1) := by decide +kernel
theorem dX7_retract_3 : decode cX7_retract 3 = .ok (.invokevirtual 92, 3) := by decide +kernel
theorem dX7_retract_6 : decode cX7_retract 6 = .ok (.ifCond .ne 7, 3) := by decide +kernel
theorem dX7_retract_9 : decode cX7_retract 9 = .ok (.iconst 1, 1) := by decide +kernel
theorem dX7_retract_10 : decode cX7_retract 10 = .ok (.goto 17, 3) := by decide +kernel
theorem dX7_retract_13 : decode cX7_retract 13 = .ok (.iload_n 3, 1) := by decide +kernel
theorem dX7_retract_14 : decode cX7_retract 14 = .ok (.iload 4, 2) := by decide +kernel
theorem dX7_retract_16 : decode cX7_retract 16 = .ok (.invokestatic 96, 3) := by decide +kernel
theorem dX7_retract_19 : decode cX7_retract 19 = .ok (.ifCond .ne 7, 3) := by decide +kernel
theorem dX7_retract_22 : decode cX7_retract 22 = .ok (.iconst 2, 1) := by decide +kernel
theorem dX7_retract_23 : decode cX7_retract 23 = .ok (.goto 4, 3) := by decide +kernel
theorem dX7_retract_26 : decode cX7_retract 26 = .ok (.iconst 0, 1) := by decide +kernel
theorem dX7_retract_27 : decode cX7_retract 27 = .ok (.istore 5, 2) := by decide +kernel
theorem dX7_retract_29 : decode cX7_retract 29 = .ok (.iconst 0, 1) := by decide +kernel
theorem dX7_retract_30 : decode cX7_retract 30 = .ok (.istore 6, 2) := by decide +kernel
theorem dX7_retract_32 : decode cX7_retract 32 = .ok (.iload 5, 2) := by decide +kernel
theorem dX7_retract_34 : decode cX7_retract 34 = .ok (.ifCond .ne 82, 3) := by decide +kernel
theorem dX7_retract_37 : decode cX7_retract 37 = .ok (.aload_n 0, 1) := by decide +kernel
theorem dX7_retract_38 : decode cX7_retract 38 = .ok (.aload_n 0, 1) := by decide +kernel
theorem dX7_retract_39 : decode cX7_retract 39 = .ok (.getfield 39, 3) := by decide +kernel
theorem dX7_retract_42 : decode cX7_retract 42 = .ok (.iload_n 1, 1) := by decide +kernel
theorem dX7_retract_43 : decode cX7_retract 43 = .ok (.iload_n 2, 1) := by decide +kernel
theorem dX7_retract_44 : decode cX7_retract 44 = .ok (.invokestatic 103, 3) := by decide +kernel
theorem dX7_retract_47 : decode cX7_retract 47 = .ok (.aload_n 0, 1) := by decide +kernel
theorem dX7_retract_48 : decode cX7_retract 48 = .ok (.getfield 78, 3) := by decide +kernel
theorem dX7_retract_51 : decode cX7_retract 51 = .ok (.invokevirtual 111, 3) := by decide +kernel
theorem dX7_retract_54 : decode cX7_retract 54 = .ok (.iload_n 3, 1) := by decide +kernel
theorem dX7_retract_55 : decode cX7_retract 55 = .ok (.istore 7, 2) := by decide +kernel
theorem dX7_retract_57 : decode cX7_retract 57 = .ok (.iload 7, 2) := by decide +kernel
theorem dX7_retract_59 : decode cX7_retract 59 = .ok (.iload 4, 2) := by decide +kernel
theorem dX7_retract_61 : decode cX7_retract 61 = .ok (.if_icmp .ge 30, 3) := by decide +kernel
theorem dX7_retract_64 : decode cX7_retract 64 = .ok (.iload 6, 2) := by decide +kernel
theorem dX7_retract_66 : decode cX7_retract 66 = .ok (.aload_n 0, 1) := by decide +kernel
theorem dX7_retract_67 : decode cX7_retract 67 = .ok (.getfield 39, 3) := by decide +kernel
theorem dX7_retract_70 : decode cX7_retract 70 = .ok (.iload 7, 2) := by decide +kernel
theorem dX7_retract_72 : decode cX7_retract 72 = .ok (.iaload, 1) := by decide +kernel
theorem dX7_retract_73 : decode cX7_retract 73 = .ok (.iconst (-1), 1) := by decide +kernel
theorem dX7_retract_74 : decode cX7_retract 74 = .ok (.if_icmp .ne 7, 3) := by decide +kernel
theorem dX7_retract_77 : decode cX7_retract 77 = .ok (.iconst 0, 1) := by decide +kernel
theorem dX7_retract_78 : decode cX7_retract 78 = .ok (.goto 4, 3) := by decide +kernel
theorem dX7_retract_81 : decode cX7_retract 81 = .ok (.iconst 1, 1) := by decide +kernel
theorem dX7_retract_82 : decode cX7_retract 82 = .ok (.iadd, 1) := by decide +kernel
theorem dX7_retract_83 : decode cX7_retract 83 = .ok (.istore 6, 2) := by decide +kernel
theorem dX7_retract_85 : decode cX7_retract 85 = .ok (.iinc 7 1, 3) := by decide +kernel
theorem dX7_retract_88 : decode cX7_retract 88 = .ok (.goto (-31), 3) := by decide +kernel
theorem dX7_retract_91 : decode cX7_retract 91 = .ok (.iload 6, 2) := by decide +kernel
theorem dX7_retract_93 : decode cX7_retract 93 = .ok (.ifCond .ne 7, 3) := by decide +kernel
theorem dX7_retract_96 : decode cX7_retract 96 = .ok (.iconst 3, 1) := by decide +kernel
theorem dX7_retract_97 : decode cX7_retract 97 = .ok (.goto 17, 3) := by decide +kernel
theorem dX7_retract_100 : decode cX7_retract 100 = .ok (.aload_n 0, 1) := by decide +kernel
theorem dX7_retract_101 : decode cX7_retract 101 = .ok (.getfield 78, 3) := by decide +kernel
theorem dX7_retract_104 : decode cX7_retract 104 = .ok (.bipush 60, 2) := by decide +kernel
theorem dX7_retract_106 : decode cX7_retract 106 = .ok (.if_icmp .ne 7, 3) := by decide +kernel
theorem dX7_retract_109 : decode cX7_retract 109 = .ok (.iconst 4, 1) := by decide +kernel
theorem dX7_retract_110 : decode cX7_retract 110 = .ok (.goto 4, 3) := by decide +kernel
theorem dX7_retract_113 : decode cX7_retract 113 = .ok (.iconst 0, 1) := by decide +kernel
theorem dX7_retract_114 : decode cX7_retract 114 = .ok (.istore 5, 2) := by decide +kernel
theorem dX7_retract_116 : decode cX7_retract 116 = .ok (.aload_n 0, 1) := by decide +kernel
theorem dX7_retract_117 : decode cX7_retract 117 = .ok (.iload 5, 2) := by decide +kernel
theorem dX7_retract_119 : decode cX7_retract 119 = .ok (.invokevirtual 71, 3) := by decide +kernel
theorem dX7_retract_122 : decode cX7_retract 122 = .ok (.ifCond .ne 5, 3) := by decide +kernel
theorem dX7_retract_125 : decode cX7_retract 125 = .ok (.iconst 0, 1) := by decide +kernel
theorem dX7_retract_126 : decode cX7_retract 126 = .ok (.ireturn, 1) := by decide +kernel
theorem dX7_retract_127 : decode cX7_retract 127 = .ok (.aload_n 0, 1) := by decide +kernel
theorem dX7_retract_128 : decode cX7_retract 128 = .ok (.bipush 114, 2) := by decide +kernel
theorem dX7_retract_130 : decode cX7_retract 130 = .ok (.iload_n 1, 1) := by decide +kernel
theorem dX7_retract_131 : decode cX7_retract 131 = .ok (.invokevirtual 99, 3) := by decide +kernel
theorem dX7_retract_134 : decode cX7_retract 134 = .ok (.aload_n 0, 1) := by decide +kernel
theorem dX7_retract_135 : decode cX7_retract 135 = .ok (.iload_n 1, 1) := by decide +kernel
theorem dX7_retract_136 : decode cX7_retract 136 = .ok (.iload_n 2, 1) := by decide +kernel
theorem dX7_retract_137 : decode cX7_retract 137 = .ok (.invokestatic 103, 3) := by decide +kernel
theorem dX7_retract_140 : decode cX7_retract 140 = .ok (.iload_n 3, 1) := by decide +kernel
theorem dX7_retract_141 : decode cX7_retract 141 = .ok (.iload 4, 2) := by decide +kernel
theorem dX7_retract_143 : decode cX7_retract 143 = .ok (.invokevirtual 107, 3) := by decide +kernel
theorem dX7_retract_146 : decode cX7_retract 146 = .ok (.istore 7, 2) := by decide +kernel
theorem dX7_retract_148 : decode cX7_retract 148 = .ok (.iload 6, 2) := by decide +kernel
theorem dX7_retract_150 : decode cX7_retract 150 = .ok (.ireturn, 1) := by decide +kernel
theorem dX7_correct_0 : decode cX7_correct 0 = .ok (.aload_n 0, 1) := by decide +kernel
theorem dX7_correct_1 : decode cX7_correct 1 = .ok (.iload_n 1, 1) := by decide +kernel
theorem dX7_correct_2 : decode cX7_correct 2 = .ok (.iload_n 2, 1) := by decide +kernel
theorem dX7_correct_3 : decode cX7_correct 3 = .ok (.invokevirtual 92, 3) := by decide +kernel
theorem dX7_correct_6 : decode cX7_correct 6 = .ok (.ifCond .ne 7, 3) := by decide +kernel
theorem dX7_correct_9 : decode cX7_correct 9 = .ok (.iconst 1, 1) := by decide +kernel
theorem dX7_correct_10 : decode cX7_correct 10 = .ok (.goto 18, 3) := by decide +kernel
theorem dX7_correct_13 : decode cX7_correct 13 = .ok (.iload_n 3, 1) := by decide +kernel
theorem dX7_correct_14 : decode cX7_correct 14 = .ok (.iconst 0, 1) := by decide +kernel
theorem dX7_correct_15 : decode cX7_correct 15 = .ok (.bipush 99, 2) := by decide +kernel
theorem dX7_correct_17 : decode cX7_correct 17 = .ok (.invokestatic 67, 3) := by decide +kernel
theorem dX7_correct_20 : decode cX7_correct 20 = .ok (.ifCond .ne 7, 3) := by decide +kernel
theorem dX7_correct_23 : decode cX7_correct 23 = .ok (.iconst 2, 1) := by decide +kernel
theorem dX7_correct_24 : decode cX7_correct 24 = .ok (.goto 4, 3) := by decide +kernel
theorem dX7_correct_27 : decode cX7_correct 27 = .ok (.iconst 0, 1) := by decide +kernel
theorem dX7_correct_28 : decode cX7_correct 28 = .ok (.istore 5, 2) := by decide +kernel
theorem dX7_correct_30 : decode cX7_correct 30 = .ok (.iload 5, 2) := by decide +kernel
theorem dX7_correct_32 : decode cX7_correct 32 = .ok (.ifCond .ne 21, 3) := by decide +kernel
theorem dX7_correct_35 : decode cX7_correct 35 = .ok (.aload_n 0, 1) := by decide +kernel
theorem dX7_correct_36 : decode cX7_correct 36 = .ok (.iload_n 1, 1) := by decide +kernel
theorem dX7_correct_37 : decode cX7_correct 37 = .ok (.iload_n 2, 1) := by decide +kernel
theorem dX7_correct_38 : decode cX7_correct 38 = .ok (.invokestatic 103, 3) := by decide +kernel
theorem dX7_correct_41 : decode cX7_correct 41 = .ok (.iload_n 3, 1) := by decide +kernel
theorem dX7_correct_42 : decode cX7_correct 42 = .ok (.iload_n 3, 1) := by decide +kernel
theorem dX7_correct_43 : decode cX7_correct 43 = .ok (.iconst 1, 1) := by decide +kernel
theorem dX7_correct_44 : decode cX7_correct 44 = .ok (.iadd, 1) := by decide +kernel
theorem dX7_correct_45 : decode cX7_correct 45 = .ok (.bipush 62, 2) := by decide +kernel
theorem dX7_correct_47 : decode cX7_correct 47 = .ok (.invokevirtual 84, 3) := by decide +kernel
theorem dX7_correct_50 : decode cX7_correct 50 = .ok (.goto 4, 3) := by decide +kernel
theorem dX7_correct_53 : decode cX7_correct 53 = .ok (.iconst (-1), 1) := by decide +kernel
theorem dX7_correct_54 : decode cX7_correct 54 = .ok (.istore 6, 2) := by decide +kernel
theorem dX7_correct_56 : decode cX7_correct 56 = .ok (.iload 5, 2) := by decide +kernel
theorem dX7_correct_58 : decode cX7_correct 58 = .ok (.ifCond .ne 30, 3) := by decide +kernel
theorem dX7_correct_61 : decode cX7_correct 61 = .ok (.iload 6, 2) := by decide +kernel
theorem dX7_correct_63 : decode cX7_correct 63 = .ok (.iconst (-1), 1) := by decide +kernel
theorem dX7_correct_64 : decode cX7_correct 64 = .ok (.if_icmp .ne 7, 3) := by decide +kernel
theorem dX7_correct_67 : decode cX7_correct 67 = .ok (.iconst 3, 1) := by decide +kernel
theorem dX7_correct_68 : decode cX7_correct 68 = .ok (.goto 22, 3) := by decide +kernel
theorem dX7_correct_71 : decode cX7_correct 71 = .ok (.aload_n 0, 1) := by decide +kernel
theorem dX7_correct_72 : decode cX7_correct 72 = .ok (.getfield 78, 3) := by decide +kernel
theorem dX7_correct_75 : decode cX7_correct 75 = .ok (.bipush 60, 2) := by decide +kernel
theorem dX7_correct_77 : decode cX7_correct 77 = .ok (.if_icmp .ne 7, 3) := by decide +kernel
theorem dX7_correct_80 : decode cX7_correct 80 = .ok (.iconst 4, 1) := by decide +kernel
theorem dX7_correct_81 : decode cX7_correct 81 = .ok (.goto 9, 3) := by decide +kernel
theorem dX7_correct_84 : decode cX7_correct 84 = .ok (.iconst 0, 1) := by decide +kernel
theorem dX7_correct_85 : decode cX7_correct 85 = .ok (.goto 5, 3) := by decide +kernel
theorem dX7_correct_88 : decode cX7_correct 88 = .ok (.iload 5, 2) := by decide +kernel
theorem dX7_correct_90 : decode cX7_correct 90 = .ok (.istore 5, 2) := by decide +kernel
theorem dX7_correct_92 : decode cX7_correct 92 = .ok (.aload_n 0, 1) := by decide +kernel
theorem dX7_correct_93 : decode cX7_correct 93 = .ok (.iload 5, 2) := by decide +kernel
theorem dX7_correct_95 : decode cX7_correct 95 = .ok (.invokevirtual 71, 3) := by decide +kernel
theorem dX7_correct_98 : decode cX7_correct 98 = .ok (.ifCond .ne 5, 3) := by decide +kernel
theorem dX7_correct_101 : decode cX7_correct 101 = .ok (.iconst 0, 1) := by decide +kernel
theorem dX7_correct_102 : decode cX7_correct 102 = .ok (.ireturn, 1) := by decide +kernel
theorem dX7_correct_103 : decode cX7_correct 103 = .ok (.aload_n 0, 1) := by decide +kernel
theorem dX7_correct_104 : decode cX7_correct 104 = .ok (.bipush 99, 2) := by decide +kernel
theorem dX7_correct_106 : decode cX7_correct 106 = .ok (.iload_n 1, 1) := by decide +kernel
theorem dX7_correct_107 : decode cX7_correct 107 = .ok (.invokevirtual 99, 3) := by decide +kernel
theorem dX7_correct_110 : decode cX7_correct 110 = .ok (.aload_n 0, 1) := by decide +kernel
theorem dX7_correct_111 : decode cX7_correct 111 = .ok (.getfield 32, 3) := by decide +kernel
theorem dX7_correct_114 : decode cX7_correct 114 = .ok (.iload 6, 2) := by decide +kernel
theorem dX7_correct_116 : decode cX7_correct 116 = .ok (.aload_n 0, 1) := by decide +kernel
theorem dX7_correct_117 : decode cX7_correct 117 = .ok (.getfield 78, 3) := by decide +kernel
theorem dX7_correct_120 : decode cX7_correct 120 = .ok (.iastore, 1) := by decide +kernel
theorem dX7_correct_121 : decode cX7_correct 121 = .ok (.aload_n 0, 1) := by decide +kernel
theorem dX7_correct_122 : decode cX7_correct 122 = .ok (.aload_n 0, 1) := by decide +kernel
theorem dX7_correct_123 : decode cX7_correct 123 = .ok (.getfield 17, 3) := by decide +kernel
theorem dX7_correct_126 : decode cX7_correct 126 = .ok (.iload 6, 2) := by decide +kernel
theorem dX7_correct_128 : decode cX7_correct 128 = .ok (.iaload, 1) := by decide +kernel
theorem dX7_correct_129 : decode cX7_correct 129 = .ok (.iload 4, 2) := by decide +kernel
theorem dX7_correct_131 : decode cX7_correct 131 = .ok (.aload_n 0, 1) := by decide +kernel
theorem dX7_correct_132 : decode cX7_correct 132 = .ok (.getfield 23, 3) := by decide +kernel
theorem dX7_correct_135 : decode cX7_correct 135 = .ok (.iload 6, 2) := by decide +kernel
theorem dX7_correct_137 : decode cX7_correct 137 = .ok (.iaload, 1) := by decide +kernel
theorem dX7_correct_138 : decode cX7_correct 138 = .ok (.aload_n 0, 1) := by decide +kernel
theorem dX7_correct_139 : decode cX7_correct 139 = .ok (.getfield 26, 3) := by decide +kernel
theorem dX7_correct_142 : decode cX7_correct 142 = .ok (.iload 6, 2) := by decide +kernel
theorem dX7_correct_144 : decode cX7_correct 144 = .ok (.iaload, 1) := by decide +kernel
theorem dX7_correct_145 : decode cX7_correct 145 = .ok (.invokevirtual 88, 3) := by decide +kernel
theorem dX7_correct_148 : decode cX7_correct 148 = .ok (.aload_n 0, 1) := by decide +kernel
theorem dX7_correct_149 : decode cX7_correct 149 = .ok (.getfield 26, 3) := by decide +kernel
theorem dX7_correct_152 : decode cX7_correct 152 = .ok (.iload 6, 2) := by decide +kernel
theorem dX7_correct_154 : decode cX7_correct 154 = .ok (.iaload, 1) := by decide +kernel
theorem dX7_correct_155 : decode cX7_correct 155 = .ok (.aload_n 0, 1) := by decide +kernel
theorem dX7_correct_156 : decode cX7_correct 156 = .ok (.getfield 23, 3) := by decide +kernel
theorem dX7_correct_159 : decode cX7_correct 159 = .ok (.iload 6, 2) := by decide +kernel
theorem dX7_correct_161 : decode cX7_correct 161 = .ok (.iaload, 1) := by decide +kernel
theorem dX7_correct_162 : decode cX7_correct 162 = .ok (.isub, 1) := by decide +kernel
theorem dX7_correct_163 : decode cX7_correct 163 = .ok (.ireturn, 1) := by decide +kernel
theorem dX7_clock_0 : decode cX7_clock 0 = .ok (.aload_n 0, 1) := by decide +kernel
theorem dX7_clock_1 : decode cX7_clock 1 = .ok (.iconst 0, 1) := by decide +kernel
theorem dX7_clock_2 : decode cX7_clock 2 = .ok (.putfield 60, 3) := by decide +kernel
theorem dX7_clock_5 : decode cX7_clock 5 = .ok (.aload_n 0, 1) := by decide +kernel
theorem dX7_clock_6 : decode cX7_clock 6 = .ok (.getfield 78, 3) := by decide +kernel
theorem dX7_clock_9 : decode cX7_clock 9 = .ok (.ireturn, 1) := by decide +kernel
theorem dX7_operationAt_0 : decode cX7_operationAt 0 = .ok (.aload_n 0, 1) := by decide +kernel
theorem dX7_operationAt_1 : decode cX7_operationAt 1 = .ok (.iload_n 1, 1) := by decide +kernel
theorem dX7_operationAt_2 : decode cX7_operationAt 2 = .ok (.iconst 1, 1) := by decide +kernel
theorem dX7_operationAt_3 : decode cX7_operationAt 3 = .ok (.aload_n 0, 1) := by decide +kernel
theorem dX7_operationAt_4 : decode cX7_operationAt 4 = .ok (.getfield 78, 3) := by decide +kernel
theorem dX7_operationAt_7 : decode cX7_operationAt 7 = .ok (.invokestatic 67, 3) := by decide +kernel
theorem dX7_operationAt_10 : decode cX7_operationAt 10 = .ok (.ifCond .eq 7, 3) := by decide +kernel
theorem dX7_operationAt_13 : decode cX7_operationAt 13 = .ok (.iconst 0, 1) := by decide +kernel
theorem dX7_operationAt_14 : decode cX7_operationAt 14 = .ok (.goto 4, 3) := by decide +kernel
theorem dX7_operationAt_17 : decode cX7_operationAt 17 = .ok (.iconst 1, 1) := by decide +kernel
theorem dX7_operationAt_18 : decode cX7_operationAt 18 = .ok (.invokevirtual 71, 3) := by decide +kernel
theorem dX7_operationAt_21 : decode cX7_operationAt 21 = .ok (.ifCond .eq 12, 3) := by decide +kernel
theorem dX7_operationAt_24 : decode cX7_operationAt 24 = .ok (.aload_n 0, 1) := by decide +kernel
theorem dX7_operationAt_25 : decode cX7_operationAt 25 = .ok (.getfield 9, 3) := by decide +kernel
theorem dX7_operationAt_28 : decode cX7_operationAt 28 = .ok (.iload_n 1, 1) := by decide +kernel
theorem dX7_operationAt_29 : decode cX7_operationAt 29 = .ok (.caload, 1) := by decide +kernel
theorem dX7_operationAt_30 : decode cX7_operationAt 30 = .ok (.goto 4, 3) := by decide +kernel
theorem dX7_operationAt_33 : decode cX7_operationAt 33 = .ok (.iconst 0, 1) := by decide +kernel
theorem dX7_operationAt_34 : decode cX7_operationAt 34 = .ok (.ireturn, 1) := by decide +kernel
theorem dX7_entityOf_0 : decode cX7_entityOf 0 = .ok (.aload_n 0, 1) := by decide +kernel
theorem dX7_entityOf_1 : decode cX7_entityOf 1 = .ok (.iload_n 1, 1) := by decide +kernel
theorem dX7_entityOf_2 : decode cX7_entityOf 2 = .ok (.iconst 1, 1) := by decide +kernel
theorem dX7_entityOf_3 : decode cX7_entityOf 3 = .ok (.aload_n 0, 1) := by decide +kernel
theorem dX7_entityOf_4 : decode cX7_entityOf 4 = .ok (.getfield 78, 3) := by decide +kernel
theorem dX7_entityOf_7 : decode cX7_entityOf 7 = .ok (.invokestatic 67, 3) := by decide +kernel
theorem dX7_entityOf_10 : decode cX7_entityOf 10 = .ok (.ifCond .eq 7, 3) := by decide +kernel
theorem dX7_entityOf_13 : decode cX7_entityOf 13 = .ok (.iconst 0, 1) := by decide +kernel
theorem dX7_entityOf_14 : decode cX7_entityOf 14 = .ok (.goto 4, 3) := by decide +kernel
theorem dX7_entityOf_17 : decode cX7_entityOf 17 = .ok (.iconst 1, 1) := by decide +kernel
theorem dX7_entityOf_18 : decode cX7_entityOf 18 = .ok (.invokevirtual 71, 3) := by decide +kernel
theorem dX7_entityOf_21 : decode cX7_entityOf 21 = .ok (.ifCond .eq 12, 3) := by decide +kernel
theorem dX7_entityOf_24 : decode cX7_entityOf 24 = .ok (.aload_n 0, 1) := by decide +kernel
theorem dX7_entityOf_25 : decode cX7_entityOf 25 = .ok (.getfield 13, 3) := by decide +kernel
theorem dX7_entityOf_28 : decode cX7_entityOf 28 = .ok (.iload_n 1, 1) := by decide +kernel
theorem dX7_entityOf_29 : decode cX7_entityOf 29 = .ok (.iaload, 1) := by decide +kernel
theorem dX7_entityOf_30 : decode cX7_entityOf 30 = .ok (.goto 4, 3) := by decide +kernel
theorem dX7_entityOf_33 : decode cX7_entityOf 33 = .ok (.iconst 0, 1) := by decide +kernel
theorem dX7_entityOf_34 : decode cX7_entityOf 34 = .ok (.ireturn, 1) := by decide +kernel
theorem dX7_factCount_0 : decode cX7_factCount 0 = .ok (.aload_n 0, 1) := by decide +kernel
theorem dX7_factCount_1 : decode cX7_factCount 1 = .ok (.iconst 0, 1) := by decide +kernel
theorem dX7_factCount_2 : decode cX7_factCount 2 = .ok (.putfield 60, 3) := by decide +kernel
theorem dX7_factCount_5 : decode cX7_factCount 5 = .ok (.aload_n 0, 1) := by decide +kernel
theorem dX7_factCount_6 : decode cX7_factCount 6 = .ok (.getfield 75, 3) := by decide +kernel
theorem dX7_factCount_9 : decode cX7_factCount 9 = .ok (.aload_n 0, 1) := by decide +kernel
theorem dX7_factCount_10 : decode cX7_factCount 10 = .ok (.getfield 115, 3) := by decide +kernel
theorem dX7_factCount_13 : decode cX7_factCount 13 = .ok (.isub, 1) := by decide +kernel
theorem dX7_factCount_14 : decode cX7_factCount 14 = .ok (.ireturn, 1) := by decide +kernel
theorem dX7_openCount_0 : decode cX7_openCount 0 = .ok (.aload_n 0, 1) := by decide +kernel
theorem dX7_openCount_1 : decode cX7_openCount 1 = .ok (.iconst 0, 1) := by decide +kernel
theorem dX7_openCount_2 : decode cX7_openCount 2 = .ok (.putfield 60, 3) := by decide +kernel
theorem dX7_openCount_5 : decode cX7_openCount 5 = .ok (.iconst 0, 1) := by decide +kernel
theorem dX7_openCount_6 : decode cX7_openCount 6 = .ok (.istore_n 1, 1) := by decide +kernel
theorem dX7_openCount_7 : decode cX7_openCount 7 = .ok (.iconst 0, 1) := by decide +kernel
theorem dX7_openCount_8 : decode cX7_openCount 8 = .ok (.istore_n 2, 1) := by decide +kernel
theorem dX7_openCount_9 : decode cX7_openCount 9 = .ok (.iload_n 2, 1) := by decide +kernel
theorem dX7_openCount_10 : decode cX7_openCount 10 = .ok (.aload_n 0, 1) := by decide +kernel
theorem dX7_openCount_11 : decode cX7_openCount 11 = .ok (.getfield 75, 3) := by decide +kernel
theorem dX7_openCount_14 : decode cX7_openCount 14 = .ok (.if_icmp .ge 25, 3) := by decide +kernel
theorem dX7_openCount_17 : decode cX7_openCount 17 = .ok (.iload_n 1, 1) := by decide +kernel
theorem dX7_openCount_18 : decode cX7_openCount 18 = .ok (.aload_n 0, 1) := by decide +kernel
theorem dX7_openCount_19 : decode cX7_openCount 19 = .ok (.iload_n 2, 1) := by decide +kernel
theorem dX7_openCount_20 : decode cX7_openCount 20 = .ok (.invokevirtual 81, 3) := by decide +kernel
theorem dX7_openCount_23 : decode cX7_openCount 23 = .ok (.ifCond .eq 7, 3) := by decide +kernel
theorem dX7_openCount_26 : decode cX7_openCount 26 = .ok (.iconst 1, 1) := by decide +kernel
theorem dX7_openCount_27 : decode cX7_openCount 27 = .ok (.goto 4, 3) := by decide +kernel
theorem dX7_openCount_30 : decode cX7_openCount 30 = .ok (.iconst 0, 1) := by decide +kernel
theorem dX7_openCount_31 : decode cX7_openCount 31 = .ok (.iadd, 1) := by decide +kernel
theorem dX7_openCount_32 : decode cX7_openCount 32 = .ok (.istore_n 1, 1) := by decide +kernel
theorem dX7_openCount_33 : decode cX7_openCount 33 = .ok (.iinc 2 1, 3) := by decide +kernel
theorem dX7_openCount_36 : decode cX7_openCount 36 = .ok (.goto (-27), 3) := by decide +kernel
theorem dX7_openCount_39 : decode cX7_openCount 39 = .ok (.iload_n 1, 1) := by decide +kernel
theorem dX7_openCount_40 : decode cX7_openCount 40 = .ok (.ireturn, 1) := by decide +kernel
theorem dX7_isFact_0 : decode cX7_isFact 0 = .ok (.aload_n 0, 1) := by decide +kernel
theorem dX7_isFact_1 : decode cX7_isFact 1 = .ok (.iload_n 1, 1) := by decide +kernel
theorem dX7_isFact_2 : decode cX7_isFact 2 = .ok (.iconst 0, 1) := by decide +kernel
theorem dX7_isFact_3 : decode cX7_isFact 3 = .ok (.aload_n 0, 1) := by decide +kernel
theorem dX7_isFact_4 : decode cX7_isFact 4 = .ok (.getfield 75, 3) := by decide +kernel
theorem dX7_isFact_7 : decode cX7_isFact 7 = .ok (.iconst 1, 1) := by decide +kernel
theorem dX7_isFact_8 : decode cX7_isFact 8 = .ok (.isub, 1) := by decide +kernel
theorem dX7_isFact_9 : decode cX7_isFact 9 = .ok (.invokestatic 67, 3) := by decide +kernel
theorem dX7_isFact_12 : decode cX7_isFact 12 = .ok (.ifCond .eq 12, 3) := by decide +kernel
theorem dX7_isFact_15 : decode cX7_isFact 15 = .ok (.aload_n 0, 1) := by decide +kernel
theorem dX7_isFact_16 : decode cX7_isFact 16 = .ok (.getfield 35, 3) := by decide +kernel
theorem dX7_isFact_19 : decode cX7_isFact 19 = .ok (.iload_n 1, 1) := by decide +kernel
theorem dX7_isFact_20 : decode cX7_isFact 20 = .ok (.baload, 1) := by decide +kernel
theorem dX7_isFact_21 : decode cX7_isFact 21 = .ok (.ifCond .eq 7, 3) := by decide +kernel
theorem dX7_isFact_24 : decode cX7_isFact 24 = .ok (.iconst 1, 1) := by decide +kernel
theorem dX7_isFact_25 : decode cX7_isFact 25 = .ok (.goto 4, 3) := by decide +kernel
theorem dX7_isFact_28 : decode cX7_isFact 28 = .ok (.iconst 0, 1) := by decide +kernel
theorem dX7_isFact_29 : decode cX7_isFact 29 = .ok (.invokevirtual 71, 3) := by decide +kernel
theorem dX7_isFact_32 : decode cX7_isFact 32 = .ok (.ireturn, 1) := by decide +kernel
theorem dX7_factValue_0 : decode cX7_factValue 0 = .ok (.aload_n 0, 1) := by decide +kernel
theorem dX7_factValue_1 : decode cX7_factValue 1 = .ok (.iload_n 1, 1) := by decide +kernel
theorem dX7_factValue_2 : decode cX7_factValue 2 = .ok (.invokevirtual 118, 3) := by decide +kernel
theorem dX7_factValue_5 : decode cX7_factValue 5 = .ok (.ifCond .eq 12, 3) := by decide +kernel
theorem dX7_factValue_8 : decode cX7_factValue 8 = .ok (.aload_n 0, 1) := by decide +kernel
theorem dX7_factValue_9 : decode cX7_factValue 9 = .ok (.getfield 20, 3) := by decide +kernel
theorem dX7_factValue_12 : decode cX7_factValue 12 = .ok (.iload_n 1, 1) := by decide +kernel
theorem dX7_factValue_13 : decode cX7_factValue 13 = .ok (.iaload, 1) := by decide +kernel
theorem dX7_factValue_14 : decode cX7_factValue 14 = .ok (.goto 4, 3) := by decide +kernel
theorem dX7_factValue_17 : decode cX7_factValue 17 = .ok (.iconst 0, 1) := by decide +kernel
theorem dX7_factValue_18 : decode cX7_factValue 18 = .ok (.ireturn, 1) := by decide +kernel
theorem dX7_factFrom_0 : decode cX7_factFrom 0 = .ok (.aload_n 0, 1) := by decide +kernel
theorem dX7_factFrom_1 : decode cX7_factFrom 1 = .ok (.iload_n 1, 1) := by decide +kernel
theorem dX7_factFrom_2 : decode cX7_factFrom 2 = .ok (.invokevirtual 118, 3) := by decide +kernel
theorem dX7_factFrom_5 : decode cX7_factFrom 5 = .ok (.ifCond .eq 12, 3) := by decide +kernel
theorem dX7_factFrom_8 : decode cX7_factFrom 8 = .ok (.aload_n 0, 1) := by decide +kernel
theorem dX7_factFrom_9 : decode cX7_factFrom 9 = .ok (.getfield 23, 3) := by decide +kernel
theorem dX7_factFrom_12 : decode cX7_factFrom 12 = .ok (.iload_n 1, 1) := by decide +kernel
theorem dX7_factFrom_13 : decode cX7_factFrom 13 = .ok (.iaload, 1) := by decide +kernel
theorem dX7_factFrom_14 : decode cX7_factFrom 14 = .ok (.goto 4, 3) := by decide +kernel
theorem dX7_factFrom_17 : decode cX7_factFrom 17 = .ok (.iconst 0, 1) := by decide +kernel
theorem dX7_factFrom_18 : decode cX7_factFrom 18 = .ok (.ireturn, 1) := by decide +kernel
theorem dX7_factTo_0 : decode cX7_factTo 0 = .ok (.aload_n 0, 1) := by decide +kernel
theorem dX7_factTo_1 : decode cX7_factTo 1 = .ok (.iload_n 1, 1) := by decide +kernel
theorem dX7_factTo_2 : decode cX7_factTo 2 = .ok (.invokevirtual 118, 3) := by decide +kernel
theorem dX7_factTo_5 : decode cX7_factTo 5 = .ok (.ifCond .eq 12, 3) := by decide +kernel
theorem dX7_factTo_8 : decode cX7_factTo 8 = .ok (.aload_n 0, 1) := by decide +kernel
theorem dX7_factTo_9 : decode cX7_factTo 9 = .ok (.getfield 26, 3) := by decide +kernel
theorem dX7_factTo_12 : decode cX7_factTo 12 = .ok (.iload_n 1, 1) := by decide +kernel
theorem dX7_factTo_13 : decode cX7_factTo 13 = .ok (.iaload, 1) := by decide +kernel
theorem dX7_factTo_14 : decode cX7_factTo 14 = .ok (.goto 4, 3) := by decide +kernel
theorem dX7_factTo_17 : decode cX7_factTo 17 = .ok (.iconst 0, 1) := by decide +kernel
theorem dX7_factTo_18 : decode cX7_factTo 18 = .ok (.ireturn, 1) := by decide +kernel
theorem dX7_openedAt_0 : decode cX7_openedAt 0 = .ok (.aload_n 0, 1) := by decide +kernel
theorem dX7_openedAt_1 : decode cX7_openedAt 1 = .ok (.iload_n 1, 1) := by decide +kernel
theorem dX7_openedAt_2 : decode cX7_openedAt 2 = .ok (.invokevirtual 118, 3) := by decide +kernel
theorem dX7_openedAt_5 : decode cX7_openedAt 5 = .ok (.ifCond .eq 12, 3) := by decide +kernel
theorem dX7_openedAt_8 : decode cX7_openedAt 8 = .ok (.aload_n 0, 1) := by decide +kernel
theorem dX7_openedAt_9 : decode cX7_openedAt 9 = .ok (.getfield 29, 3) := by decide +kernel
theorem dX7_openedAt_12 : decode cX7_openedAt 12 = .ok (.iload_n 1, 1) := by decide +kernel
theorem dX7_openedAt_13 : decode cX7_openedAt 13 = .ok (.iaload, 1) := by decide +kernel
theorem dX7_openedAt_14 : decode cX7_openedAt 14 = .ok (.goto 4, 3) := by decide +kernel
theorem dX7_openedAt_17 : decode cX7_openedAt 17 = .ok (.iconst 0, 1) := by decide +kernel
theorem dX7_openedAt_18 : decode cX7_openedAt 18 = .ok (.ireturn, 1) := by decide +kernel
theorem dX7_closedAt_0 : decode cX7_closedAt 0 = .ok (.aload_n 0, 1) := by decide +kernel
theorem dX7_closedAt_1 : decode cX7_closedAt 1 = .ok (.iload_n 1, 1) := by decide +kernel
theorem dX7_closedAt_2 : decode cX7_closedAt 2 = .ok (.invokevirtual 118, 3) := by decide +kernel
theorem dX7_closedAt_5 : decode cX7_closedAt 5 = .ok (.ifCond .eq 12, 3) := by decide +kernel
theorem dX7_closedAt_8 : decode cX7_closedAt 8 = .ok (.aload_n 0, 1) := by decide +kernel
theorem dX7_closedAt_9 : decode cX7_closedAt 9 = .ok (.getfield 32, 3) := by decide +kernel
theorem dX7_closedAt_12 : decode cX7_closedAt 12 = .ok (.iload_n 1, 1) := by decide +kernel
theorem dX7_closedAt_13 : decode cX7_closedAt 13 = .ok (.iaload, 1) := by decide +kernel
theorem dX7_closedAt_14 : decode cX7_closedAt 14 = .ok (.goto 4, 3) := by decide +kernel
theorem dX7_closedAt_17 : decode cX7_closedAt 17 = .ok (.iconst 0, 1) := by decide +kernel
theorem dX7_closedAt_18 : decode cX7_closedAt 18 = .ok (.ireturn, 1) := by decide +kernel
theorem dX7_purge_0 : decode cX7_purge 0 = .ok (.aload_n 0, 1) := by decide +kernel
theorem dX7_purge_1 : decode cX7_purge 1 = .ok (.iload_n 1, 1) := by decide +kernel
theorem dX7_purge_2 : decode cX7_purge 2 = .ok (.aload_n 0, 1) := by decide +kernel
theorem dX7_purge_3 : decode cX7_purge 3 = .ok (.getfield 121, 3) := by decide +kernel
theorem dX7_purge_6 : decode cX7_purge 6 = .ok (.aload_n 0, 1) := by decide +kernel
theorem dX7_purge_7 : decode cX7_purge 7 = .ok (.getfield 78, 3) := by decide +kernel
theorem dX7_purge_10 : decode cX7_purge 10 = .ok (.invokestatic 67, 3) := by decide +kernel
theorem dX7_purge_13 : decode cX7_purge 13 = .ok (.ifCond .eq 7, 3) := by decide +kernel
theorem dX7_purge_16 : decode cX7_purge 16 = .ok (.iconst 0, 1) := by decide +kernel
theorem dX7_purge_17 : decode cX7_purge 17 = .ok (.goto 4, 3) := by decide +kernel
theorem dX7_purge_20 : decode cX7_purge 20 = .ok (.iconst 1, 1) := by decide +kernel
theorem dX7_purge_21 : decode cX7_purge 21 = .ok (.invokevirtual 71, 3) := by decide +kernel
theorem dX7_purge_24 : decode cX7_purge 24 = .ok (.ifCond .ne 5, 3) := by decide +kernel
theorem dX7_purge_27 : decode cX7_purge 27 = .ok (.iconst 0, 1) := by decide +kernel
theorem dX7_purge_28 : decode cX7_purge 28 = .ok (.ireturn, 1) := by decide +kernel
theorem dX7_purge_29 : decode cX7_purge 29 = .ok (.iconst 0, 1) := by decide +kernel
theorem dX7_purge_30 : decode cX7_purge 30 = .ok (.istore_n 2, 1) := by decide +kernel
theorem dX7_purge_31 : decode cX7_purge 31 = .ok (.iconst 0, 1) := by decide +kernel
theorem dX7_purge_32 : decode cX7_purge 32 = .ok (.istore_n 3, 1) := by decide +kernel
theorem dX7_purge_33 : decode cX7_purge 33 = .ok (.iload_n 3, 1) := by decide +kernel
theorem dX7_purge_34 : decode cX7_purge 34 = .ok (.aload_n 0, 1) := by decide +kernel
theorem dX7_purge_35 : decode cX7_purge 35 = .ok (.getfield 75, 3) := by decide +kernel
theorem dX7_purge_38 : decode cX7_purge 38 = .ok (.if_icmp .ge 48, 3) := by decide +kernel
theorem dX7_purge_41 : decode cX7_purge 41 = .ok (.aload_n 0, 1) := by decide +kernel
theorem dX7_purge_42 : decode cX7_purge 42 = .ok (.getfield 35, 3) := by decide +kernel
theorem dX7_purge_45 : decode cX7_purge 45 = .ok (.iload_n 3, 1) := by decide +kernel
theorem dX7_purge_46 : decode cX7_purge 46 = .ok (.baload, 1) := by decide +kernel
theorem dX7_purge_47 : decode cX7_purge 47 = .ok (.ifCond .ne 33, 3) := by decide +kernel
theorem dX7_purge_50 : decode cX7_purge 50 = .ok (.aload_n 0, 1) := by decide +kernel
theorem dX7_purge_51 : decode cX7_purge 51 = .ok (.getfield 32, 3) := by decide +kernel
theorem dX7_purge_54 : decode cX7_purge 54 = .ok (.iload_n 3, 1) := by decide +kernel
theorem dX7_purge_55 : decode cX7_purge 55 = .ok (.iaload, 1) := by decide +kernel
theorem dX7_purge_56 : decode cX7_purge 56 = .ok (.iconst (-1), 1) := by decide +kernel
theorem dX7_purge_57 : decode cX7_purge 57 = .ok (.if_icmp .eq 23, 3) := by decide +kernel
theorem dX7_purge_60 : decode cX7_purge 60 = .ok (.aload_n 0, 1) := by decide +kernel
theorem dX7_purge_61 : decode cX7_purge 61 = .ok (.getfield 32, 3) := by decide +kernel
theorem dX7_purge_64 : decode cX7_purge 64 = .ok (.iload_n 3, 1) := by decide +kernel
theorem dX7_purge_65 : decode cX7_purge 65 = .ok (.iaload, 1) := by decide +kernel
theorem dX7_purge_66 : decode cX7_purge 66 = .ok (.iload_n 1, 1) := by decide +kernel
theorem dX7_purge_67 : decode cX7_purge 67 = .ok (.if_icmp .gt 13, 3) := by decide +kernel
theorem dX7_purge_70 : decode cX7_purge 70 = .ok (.aload_n 0, 1) := by decide +kernel
theorem dX7_purge_71 : decode cX7_purge 71 = .ok (.getfield 35, 3) := by decide +kernel
theorem dX7_purge_74 : decode cX7_purge 74 = .ok (.iload_n 3, 1) := by decide +kernel
theorem dX7_purge_75 : decode cX7_purge 75 = .ok (.iconst 1, 1) := by decide +kernel
theorem dX7_purge_76 : decode cX7_purge 76 = .ok (.bastore, 1) := by decide +kernel
theorem dX7_purge_77 : decode cX7_purge 77 = .ok (.iinc 2 1, 3) := by decide +kernel
theorem dX7_purge_80 : decode cX7_purge 80 = .ok (.iinc 3 1, 3) := by decide +kernel
theorem dX7_purge_83 : decode cX7_purge 83 = .ok (.goto (-50), 3) := by decide +kernel
theorem dX7_purge_86 : decode cX7_purge 86 = .ok (.aload_n 0, 1) := by decide +kernel
theorem dX7_purge_87 : decode cX7_purge 87 = .ok (.dup, 1) := by decide +kernel
theorem dX7_purge_88 : decode cX7_purge 88 = .ok (.getfield 115, 3) := by decide +kernel
theorem dX7_purge_91 : decode cX7_purge 91 = .ok (.iload_n 2, 1) := by decide +kernel
theorem dX7_purge_92 : decode cX7_purge 92 = .ok (.iadd, 1) := by decide +kernel
theorem dX7_purge_93 : decode cX7_purge 93 = .ok (.putfield 115, 3) := by decide +kernel
theorem dX7_purge_96 : decode cX7_purge 96 = .ok (.aload_n 0, 1) := by decide +kernel
theorem dX7_purge_97 : decode cX7_purge 97 = .ok (.iload_n 1, 1) := by decide +kernel
theorem dX7_purge_98 : decode cX7_purge 98 = .ok (.putfield 121, 3) := by decide +kernel
theorem dX7_purge_101 : decode cX7_purge 101 = .ok (.iload_n 2, 1) := by decide +kernel
theorem dX7_purge_102 : decode cX7_purge 102 = .ok (.ireturn, 1) := by decide +kernel
theorem dX7_horizon_0 : decode cX7_horizon 0 = .ok (.aload_n 0, 1) := by decide +kernel
theorem dX7_horizon_1 : decode cX7_horizon 1 = .ok (.iconst 0, 1) := by decide +kernel
theorem dX7_horizon_2 : decode cX7_horizon 2 = .ok (.putfield 60, 3) := by decide +kernel
theorem dX7_horizon_5 : decode cX7_horizon 5 = .ok (.aload_n 0, 1) := by decide +kernel
theorem dX7_horizon_6 : decode cX7_horizon 6 = .ok (.getfield 121, 3) := by decide +kernel
theorem dX7_horizon_9 : decode cX7_horizon 9 = .ok (.ireturn, 1) := by decide +kernel
theorem dX7_looksAt_0 : decode cX7_looksAt 0 = .ok (.iconst 0, 1) := by decide +kernel
theorem dX7_looksAt_1 : decode cX7_looksAt 1 = .ok (.istore 4, 2) := by decide +kernel
theorem dX7_looksAt_3 : decode cX7_looksAt 3 = .ok (.iload 4, 2) := by decide +kernel
theorem dX7_looksAt_5 : decode cX7_looksAt 5 = .ok (.bipush 100, 2) := by decide +kernel
theorem dX7_looksAt_7 : decode cX7_looksAt 7 = .ok (.if_icmp .ge 14, 3) := by decide +kernel
theorem dX7_looksAt_10 : decode cX7_looksAt 10 = .ok (.aload_n 1, 1) := by decide +kernel
theorem dX7_looksAt_11 : decode cX7_looksAt 11 = .ok (.iload 4, 2) := by decide +kernel
theorem dX7_looksAt_13 : decode cX7_looksAt 13 = .ok (.iconst (-1), 1) := by decide +kernel
theorem dX7_looksAt_14 : decode cX7_looksAt 14 = .ok (.iastore, 1) := by decide +kernel
theorem dX7_looksAt_15 : decode cX7_looksAt 15 = .ok (.iinc 4 1, 3) := by decide +kernel
theorem dX7_looksAt_18 : decode cX7_looksAt 18 = .ok (.goto (-15), 3) := by decide +kernel
theorem dX7_looksAt_21 : decode cX7_looksAt 21 = .ok (.iconst 0, 1) := by decide +kernel
theorem dX7_looksAt_22 : decode cX7_looksAt 22 = .ok (.istore 4, 2) := by decide +kernel
theorem dX7_looksAt_24 : decode cX7_looksAt 24 = .ok (.iload 4, 2) := by decide +kernel
theorem dX7_looksAt_26 : decode cX7_looksAt 26 = .ok (.aload_n 0, 1) := by decide +kernel
theorem dX7_looksAt_27 : decode cX7_looksAt 27 = .ok (.getfield 75, 3) := by decide +kernel
theorem dX7_looksAt_30 : decode cX7_looksAt 30 = .ok (.if_icmp .ge 108, 3) := by decide +kernel
theorem dX7_looksAt_33 : decode cX7_looksAt 33 = .ok (.aload_n 0, 1) := by decide +kernel
theorem dX7_looksAt_34 : decode cX7_looksAt 34 = .ok (.getfield 17, 3) := by decide +kernel
theorem dX7_looksAt_37 : decode cX7_looksAt 37 = .ok (.iload 4, 2) := by decide +kernel
theorem dX7_looksAt_39 : decode cX7_looksAt 39 = .ok (.iaload, 1) := by decide +kernel
theorem dX7_looksAt_40 : decode cX7_looksAt 40 = .ok (.iload_n 2, 1) := by decide +kernel
theorem dX7_looksAt_41 : decode cX7_looksAt 41 = .ok (.if_icmp .ne 50, 3) := by decide +kernel
theorem dX7_looksAt_44 : decode cX7_looksAt 44 = .ok (.aload_n 0, 1) := by decide +kernel
theorem dX7_looksAt_45 : decode cX7_looksAt 45 = .ok (.getfield 35, 3) := by decide +kernel
theorem dX7_looksAt_48 : decode cX7_looksAt 48 = .ok (.iload 4, 2) := by decide +kernel
theorem dX7_looksAt_50 : decode cX7_looksAt 50 = .ok (.baload, 1) := by decide +kernel
theorem dX7_looksAt_51 : decode cX7_looksAt 51 = .ok (.ifCond .ne 40, 3) := by decide +kernel
theorem dX7_looksAt_54 : decode cX7_looksAt 54 = .ok (.aload_n 0, 1) := by decide +kernel
theorem dX7_looksAt_55 : decode cX7_looksAt 55 = .ok (.getfield 29, 3) := by decide +kernel
theorem dX7_looksAt_58 : decode cX7_looksAt 58 = .ok (.iload 4, 2) := by decide +kernel
theorem dX7_looksAt_60 : decode cX7_looksAt 60 = .ok (.iaload, 1) := by decide +kernel
theorem dX7_looksAt_61 : decode cX7_looksAt 61 = .ok (.iload_n 3, 1) := by decide +kernel
theorem dX7_looksAt_62 : decode cX7_looksAt 62 = .ok (.if_icmp .gt 29, 3) := by decide +kernel
theorem dX7_looksAt_65 : decode cX7_looksAt 65 = .ok (.aload_n 0, 1) := by decide +kernel
theorem dX7_looksAt_66 : decode cX7_looksAt 66 = .ok (.getfield 32, 3) := by decide +kernel
theorem dX7_looksAt_69 : decode cX7_looksAt 69 = .ok (.iload 4, 2) := by decide +kernel
theorem dX7_looksAt_71 : decode cX7_looksAt 71 = .ok (.iaload, 1) := by decide +kernel
theorem dX7_looksAt_72 : decode cX7_looksAt 72 = .ok (.iconst (-1), 1) := by decide +kernel
theorem dX7_looksAt_73 : decode cX7_looksAt 73 = .ok (.if_icmp .eq 14, 3) := by decide +kernel
theorem dX7_looksAt_76 : decode cX7_looksAt 76 = .ok (.aload_n 0, 1) := by decide +kernel
theorem dX7_looksAt_77 : decode cX7_looksAt 77 = .ok (.getfield 32, 3) := by decide +kernel
theorem dX7_looksAt_80 : decode cX7_looksAt 80 = .ok (.iload 4, 2) := by decide +kernel
theorem dX7_looksAt_82 : decode cX7_looksAt 82 = .ok (.iaload, 1) := by decide +kernel
theorem dX7_looksAt_83 : decode cX7_looksAt 83 = .ok (.iload_n 3, 1) := by decide +kernel
theorem dX7_looksAt_84 : decode cX7_looksAt 84 = .ok (.if_icmp .le 7, 3) := by decide +kernel
theorem dX7_looksAt_87 : decode cX7_looksAt 87 = .ok (.iconst 1, 1) := by decide +kernel
theorem dX7_looksAt_88 : decode cX7_looksAt 88 = .ok (.goto 4, 3) := by decide +kernel
theorem dX7_looksAt_91 : decode cX7_looksAt 91 = .ok (.iconst 0, 1) := by decide +kernel
theorem dX7_looksAt_92 : decode cX7_looksAt 92 = .ok (.istore 5, 2) := by decide +kernel
theorem dX7_looksAt_94 : decode cX7_looksAt 94 = .ok (.aload_n 0, 1) := by decide +kernel
theorem dX7_looksAt_95 : decode cX7_looksAt 95 = .ok (.getfield 23, 3) := by decide +kernel
theorem dX7_looksAt_98 : decode cX7_looksAt 98 = .ok (.iload 4, 2) := by decide +kernel
theorem dX7_looksAt_100 : decode cX7_looksAt 100 = .ok (.iaload, 1) := by decide +kernel
theorem dX7_looksAt_101 : decode cX7_looksAt 101 = .ok (.istore 6, 2) := by decide +kernel
theorem dX7_looksAt_103 : decode cX7_looksAt 103 = .ok (.iload 5, 2) := by decide +kernel
theorem dX7_looksAt_105 : decode cX7_looksAt 105 = .ok (.ifCond .eq 27, 3) := by decide +kernel
theorem dX7_looksAt_108 : decode cX7_looksAt 108 = .ok (.iload 6, 2) := by decide +kernel
theorem dX7_looksAt_110 : decode cX7_looksAt 110 = .ok (.aload_n 0, 1) := by decide +kernel
theorem dX7_looksAt_111 : decode cX7_looksAt 111 = .ok (.getfield 26, 3) := by decide +kernel
theorem dX7_looksAt_114 : decode cX7_looksAt 114 = .ok (.iload 4, 2) := by decide +kernel
theorem dX7_looksAt_116 : decode cX7_looksAt 116 = .ok (.iaload, 1) := by decide +kernel
theorem dX7_looksAt_117 : decode cX7_looksAt 117 = .ok (.if_icmp .ge 15, 3) := by decide +kernel
theorem dX7_looksAt_120 : decode cX7_looksAt 120 = .ok (.aload_n 1, 1) := by decide +kernel
theorem dX7_looksAt_121 : decode cX7_looksAt 121 = .ok (.iload 6, 2) := by decide +kernel
theorem dX7_looksAt_123 : decode cX7_looksAt 123 = .ok (.iload 4, 2) := by decide +kernel
theorem dX7_looksAt_125 : decode cX7_looksAt 125 = .ok (.iastore, 1) := by decide +kernel
theorem dX7_looksAt_126 : decode cX7_looksAt 126 = .ok (.iinc 6 1, 3) := by decide +kernel
theorem dX7_looksAt_129 : decode cX7_looksAt 129 = .ok (.goto (-26), 3) := by decide +kernel
theorem dX7_looksAt_132 : decode cX7_looksAt 132 = .ok (.iinc 4 1, 3) := by decide +kernel
theorem dX7_looksAt_135 : decode cX7_looksAt 135 = .ok (.goto (-111), 3) := by decide +kernel
theorem dX7_looksAt_138 : decode cX7_looksAt 138 = .ok (.return_, 1) := by decide +kernel
theorem dX7_askFault_0 : decode cX7_askFault 0 = .ok (.aload_n 0, 1) := by decide +kernel
theorem dX7_askFault_1 : decode cX7_askFault 1 = .ok (.iload_n 1, 1) := by decide +kernel
theorem dX7_askFault_2 : decode cX7_askFault 2 = .ok (.iload_n 2, 1) := by decide +kernel
theorem dX7_askFault_3 : decode cX7_askFault 3 = .ok (.invokevirtual 92, 3) := by decide +kernel
theorem dX7_askFault_6 : decode cX7_askFault 6 = .ok (.ifCond .ne 7, 3) := by decide +kernel
theorem dX7_askFault_9 : decode cX7_askFault 9 = .ok (.iconst 1, 1) := by decide +kernel
theorem dX7_askFault_10 : decode cX7_askFault 10 = .ok (.goto 32, 3) := by decide +kernel
theorem dX7_askFault_13 : decode cX7_askFault 13 = .ok (.iload_n 3, 1) := by decide +kernel
theorem dX7_askFault_14 : decode cX7_askFault 14 = .ok (.iconst 0, 1) := by decide +kernel
theorem dX7_askFault_15 : decode cX7_askFault 15 = .ok (.aload_n 0, 1) := by decide +kernel
theorem dX7_askFault_16 : decode cX7_askFault 16 = .ok (.getfield 78, 3) := by decide +kernel
theorem dX7_askFault_19 : decode cX7_askFault 19 = .ok (.invokestatic 67, 3) := by decide +kernel
theorem dX7_askFault_22 : decode cX7_askFault 22 = .ok (.ifCond .ne 7, 3) := by decide +kernel
theorem dX7_askFault_25 : decode cX7_askFault 25 = .ok (.iconst 2, 1) := by decide +kernel
theorem dX7_askFault_26 : decode cX7_askFault 26 = .ok (.goto 16, 3) := by decide +kernel
theorem dX7_askFault_29 : decode cX7_askFault 29 = .ok (.iload_n 3, 1) := by decide +kernel
theorem dX7_askFault_30 : decode cX7_askFault 30 = .ok (.aload_n 0, 1) := by decide +kernel
theorem dX7_askFault_31 : decode cX7_askFault 31 = .ok (.getfield 121, 3) := by decide +kernel
theorem dX7_askFault_34 : decode cX7_askFault 34 = .ok (.if_icmp .ge 7, 3) := by decide +kernel
theorem dX7_askFault_37 : decode cX7_askFault 37 = .ok (.iconst 3, 1) := by decide +kernel
theorem dX7_askFault_38 : decode cX7_askFault 38 = .ok (.goto 4, 3) := by decide +kernel
theorem dX7_askFault_41 : decode cX7_askFault 41 = .ok (.iconst 0, 1) := by decide +kernel
theorem dX7_askFault_42 : decode cX7_askFault 42 = .ok (.ireturn, 1) := by decide +kernel
theorem dX7_dayFault_0 : decode cX7_dayFault 0 = .ok (.aload_n 0, 1) := by decide +kernel
theorem dX7_dayFault_1 : decode cX7_dayFault 1 = .ok (.iload_n 1, 1) := by decide +kernel
theorem dX7_dayFault_2 : decode cX7_dayFault 2 = .ok (.iload_n 2, 1) := by decide +kernel
theorem dX7_dayFault_3 : decode cX7_dayFault 3 = .ok (.invokevirtual 92, 3) := by decide +kernel
theorem dX7_dayFault_6 : decode cX7_dayFault 6 = .ok (.ifCond .ne 7, 3) := by decide +kernel
theorem dX7_dayFault_9 : decode cX7_dayFault 9 = .ok (.iconst 1, 1) := by decide +kernel
theorem dX7_dayFault_10 : decode cX7_dayFault 10 = .ok (.goto 44, 3) := by decide +kernel
theorem dX7_dayFault_13 : decode cX7_dayFault 13 = .ok (.iload_n 3, 1) := by decide +kernel
theorem dX7_dayFault_14 : decode cX7_dayFault 14 = .ok (.iconst 0, 1) := by decide +kernel
theorem dX7_dayFault_15 : decode cX7_dayFault 15 = .ok (.bipush 99, 2) := by decide +kernel
theorem dX7_dayFault_17 : decode cX7_dayFault 17 = .ok (.invokestatic 67, 3) := by decide +kernel
theorem dX7_dayFault_20 : decode cX7_dayFault 20 = .ok (.ifCond .eq 16, 3) := by decide +kernel
theorem dX7_dayFault_23 : decode cX7_dayFault 23 = .ok (.iload 4, 2) := by decide +kernel
theorem dX7_dayFault_25 : decode cX7_dayFault 25 = .ok (.iconst 0, 1) := by decide +kernel
theorem dX7_dayFault_26 : decode cX7_dayFault 26 = .ok (.aload_n 0, 1) := by decide +kernel
theorem dX7_dayFault_27 : decode cX7_dayFault 27 = .ok (.getfield 78, 3) := by decide +kernel
theorem dX7_dayFault_30 : decode cX7_dayFault 30 = .ok (.invokestatic 67, 3) := by decide +kernel
theorem dX7_dayFault_33 : decode cX7_dayFault 33 = .ok (.ifCond .ne 7, 3) := by decide +kernel
theorem dX7_dayFault_36 : decode cX7_dayFault 36 = .ok (.iconst 2, 1) := by decide +kernel
theorem dX7_dayFault_37 : decode cX7_dayFault 37 = .ok (.goto 17, 3) := by decide +kernel
theorem dX7_dayFault_40 : decode cX7_dayFault 40 = .ok (.iload 4, 2) := by decide +kernel
theorem dX7_dayFault_42 : decode cX7_dayFault 42 = .ok (.aload_n 0, 1) := by decide +kernel
theorem dX7_dayFault_43 : decode cX7_dayFault 43 = .ok (.getfield 121, 3) := by decide +kernel
theorem dX7_dayFault_46 : decode cX7_dayFault 46 = .ok (.if_icmp .ge 7, 3) := by decide +kernel
theorem dX7_dayFault_49 : decode cX7_dayFault 49 = .ok (.iconst 3, 1) := by decide +kernel
theorem dX7_dayFault_50 : decode cX7_dayFault 50 = .ok (.goto 4, 3) := by decide +kernel
theorem dX7_dayFault_53 : decode cX7_dayFault 53 = .ok (.iconst 0, 1) := by decide +kernel
theorem dX7_dayFault_54 : decode cX7_dayFault 54 = .ok (.ireturn, 1) := by decide +kernel
theorem dX7_factOn_0 : decode cX7_factOn 0 = .ok (.aload_n 0, 1) := by decide +kernel
theorem dX7_factOn_1 : decode cX7_factOn 1 = .ok (.aload_n 0, 1) := by decide +kernel
theorem dX7_factOn_2 : decode cX7_factOn 2 = .ok (.getfield 39, 3) := by decide +kernel
theorem dX7_factOn_5 : decode cX7_factOn 5 = .ok (.iload_n 1, 1) := by decide +kernel
theorem dX7_factOn_6 : decode cX7_factOn 6 = .ok (.iload_n 3, 1) := by decide +kernel
theorem dX7_factOn_7 : decode cX7_factOn 7 = .ok (.invokevirtual 111, 3) := by decide +kernel
theorem dX7_factOn_10 : decode cX7_factOn 10 = .ok (.aload_n 0, 1) := by decide +kernel
theorem dX7_factOn_11 : decode cX7_factOn 11 = .ok (.getfield 39, 3) := by decide +kernel
theorem dX7_factOn_14 : decode cX7_factOn 14 = .ok (.iload_n 2, 1) := by decide +kernel
theorem dX7_factOn_15 : decode cX7_factOn 15 = .ok (.iaload, 1) := by decide +kernel
theorem dX7_factOn_16 : decode cX7_factOn 16 = .ok (.ireturn, 1) := by decide +kernel
theorem dX7_isKnown_0 : decode cX7_isKnown 0 = .ok (.aload_n 0, 1) := by decide +kernel
theorem dX7_isKnown_1 : decode cX7_isKnown 1 = .ok (.aload_n 0, 1) := by decide +kernel
theorem dX7_isKnown_2 : decode cX7_isKnown 2 = .ok (.iload_n 1, 1) := by decide +kernel
theorem dX7_isKnown_3 : decode cX7_isKnown 3 = .ok (.iload_n 2, 1) := by decide +kernel
theorem dX7_isKnown_4 : decode cX7_isKnown 4 = .ok (.iload_n 3, 1) := by decide +kernel
theorem dX7_isKnown_5 : decode cX7_isKnown 5 = .ok (.iload 4, 2) := by decide +kernel
theorem dX7_isKnown_7 : decode cX7_isKnown 7 = .ok (.invokevirtual 124, 3) := by decide +kernel
theorem dX7_isKnown_10 : decode cX7_isKnown 10 = .ok (.invokevirtual 71, 3) := by decide +kernel
theorem dX7_isKnown_13 : decode cX7_isKnown 13 = .ok (.ifCond .eq 23, 3) := by decide +kernel
theorem dX7_isKnown_16 : decode cX7_isKnown 16 = .ok (.aload_n 0, 1) := by decide +kernel
theorem dX7_isKnown_17 : decode cX7_isKnown 17 = .ok (.iload_n 1, 1) := by decide +kernel
theorem dX7_isKnown_18 : decode cX7_isKnown 18 = .ok (.iload_n 2, 1) := by decide +kernel
theorem dX7_isKnown_19 : decode cX7_isKnown 19 = .ok (.invokestatic 103, 3) := by decide +kernel
theorem dX7_isKnown_22 : decode cX7_isKnown 22 = .ok (.iload_n 3, 1) := by decide +kernel
theorem dX7_isKnown_23 : decode cX7_isKnown 23 = .ok (.iload 4, 2) := by decide +kernel
theorem dX7_isKnown_25 : decode cX7_isKnown 25 = .ok (.invokevirtual 127, 3) := by decide +kernel
theorem dX7_isKnown_28 : decode cX7_isKnown 28 = .ok (.iconst (-1), 1) := by decide +kernel
theorem dX7_isKnown_29 : decode cX7_isKnown 29 = .ok (.if_icmp .eq 7, 3) := by decide +kernel
theorem dX7_isKnown_32 : decode cX7_isKnown 32 = .ok (.iconst 1, 1) := by decide +kernel
theorem dX7_isKnown_33 : decode cX7_isKnown 33 = .ok (.goto 4, 3) := by decide +kernel
theorem dX7_isKnown_36 : decode cX7_isKnown 36 = .ok (.iconst 0, 1) := by decide +kernel
theorem dX7_isKnown_37 : decode cX7_isKnown 37 = .ok (.ireturn, 1) := by decide +kernel
theorem dX7_valueAt_0 : decode cX7_valueAt 0 = .ok (.aload_n 0, 1) := by decide +kernel
theorem dX7_valueAt_1 : decode cX7_valueAt 1 = .ok (.iload_n 1, 1) := by decide +kernel
theorem dX7_valueAt_2 : decode cX7_valueAt 2 = .ok (.iload_n 2, 1) := by decide +kernel
theorem dX7_valueAt_3 : decode cX7_valueAt 3 = .ok (.iload_n 3, 1) := by decide +kernel
theorem dX7_valueAt_4 : decode cX7_valueAt 4 = .ok (.iload 4, 2) := by decide +kernel
theorem dX7_valueAt_6 : decode cX7_valueAt 6 = .ok (.invokevirtual 124, 3) := by decide +kernel
theorem dX7_valueAt_9 : decode cX7_valueAt 9 = .ok (.istore 5, 2) := by decide +kernel
theorem dX7_valueAt_11 : decode cX7_valueAt 11 = .ok (.iload 5, 2) := by decide +kernel
theorem dX7_valueAt_13 : decode cX7_valueAt 13 = .ok (.ifCond .ne 18, 3) := by decide +kernel
theorem dX7_valueAt_16 : decode cX7_valueAt 16 = .ok (.aload_n 0, 1) := by decide +kernel
theorem dX7_valueAt_17 : decode cX7_valueAt 17 = .ok (.iload_n 1, 1) := by decide +kernel
theorem dX7_valueAt_18 : decode cX7_valueAt 18 = .ok (.iload_n 2, 1) := by decide +kernel
theorem dX7_valueAt_19 : decode cX7_valueAt 19 = .ok (.invokestatic 103, 3) := by decide +kernel
theorem dX7_valueAt_22 : decode cX7_valueAt 22 = .ok (.iload_n 3, 1) := by decide +kernel
theorem dX7_valueAt_23 : decode cX7_valueAt 23 = .ok (.iload 4, 2) := by decide +kernel
theorem dX7_valueAt_25 : decode cX7_valueAt 25 = .ok (.invokevirtual 127, 3) := by decide +kernel
theorem dX7_valueAt_28 : decode cX7_valueAt 28 = .ok (.goto 4, 3) := by decide +kernel
theorem dX7_valueAt_31 : decode cX7_valueAt 31 = .ok (.iconst (-1), 1) := by decide +kernel
theorem dX7_valueAt_32 : decode cX7_valueAt 32 = .ok (.istore 6, 2) := by decide +kernel
theorem dX7_valueAt_34 : decode cX7_valueAt 34 = .ok (.aload_n 0, 1) := by decide +kernel
theorem dX7_valueAt_35 : decode cX7_valueAt 35 = .ok (.iload 5, 2) := by decide +kernel
theorem dX7_valueAt_37 : decode cX7_valueAt 37 = .ok (.ifCond .ne 13, 3) := by decide +kernel
theorem dX7_valueAt_40 : decode cX7_valueAt 40 = .ok (.iload 6, 2) := by decide +kernel
theorem dX7_valueAt_42 : decode cX7_valueAt 42 = .ok (.iconst (-1), 1) := by decide +kernel
theorem dX7_valueAt_43 : decode cX7_valueAt 43 = .ok (.if_icmp .ne 7, 3) := by decide +kernel
theorem dX7_valueAt_46 : decode cX7_valueAt 46 = .ok (.iconst 4, 1) := by decide +kernel
theorem dX7_valueAt_47 : decode cX7_valueAt 47 = .ok (.goto 5, 3) := by decide +kernel
theorem dX7_valueAt_50 : decode cX7_valueAt 50 = .ok (.iload 5, 2) := by decide +kernel
theorem dX7_valueAt_52 : decode cX7_valueAt 52 = .ok (.invokevirtual 71, 3) := by decide +kernel
theorem dX7_valueAt_55 : decode cX7_valueAt 55 = .ok (.ifCond .eq 13, 3) := by decide +kernel
theorem dX7_valueAt_58 : decode cX7_valueAt 58 = .ok (.aload_n 0, 1) := by decide +kernel
theorem dX7_valueAt_59 : decode cX7_valueAt 59 = .ok (.getfield 20, 3) := by decide +kernel
theorem dX7_valueAt_62 : decode cX7_valueAt 62 = .ok (.iload 6, 2) := by decide +kernel
theorem dX7_valueAt_64 : decode cX7_valueAt 64 = .ok (.iaload, 1) := by decide +kernel
theorem dX7_valueAt_65 : decode cX7_valueAt 65 = .ok (.goto 4, 3) := by decide +kernel
theorem dX7_valueAt_68 : decode cX7_valueAt 68 = .ok (.iconst 0, 1) := by decide +kernel
theorem dX7_valueAt_69 : decode cX7_valueAt 69 = .ok (.ireturn, 1) := by decide +kernel
theorem dX7_valueByReplay_0 : decode cX7_valueByReplay 0 = .ok (.aload_n 0, 1) := by decide +kernel
theorem dX7_valueByReplay_1 : decode cX7_valueByReplay 1 = .ok (.iload_n 1, 1) := by decide +kernel
theorem dX7_valueByReplay_2 : decode cX7_valueByReplay 2 = .ok (.iload_n 2, 1) := by decide +kernel
theorem dX7_valueByReplay_3 : decode cX7_valueByReplay 3 = .ok (.iload_n 3, 1) := by decide +kernel
theorem dX7_valueByReplay_4 : decode cX7_valueByReplay 4 = .ok (.iload 4, 2) := by decide +kernel
theorem dX7_valueByReplay_6 : decode cX7_valueByReplay 6 = .ok (.invokevirtual 130, 3) := by decide +kernel
theorem dX7_valueByReplay_9 : decode cX7_valueByReplay 9 = .ok (.ireturn, 1) := by decide +kernel
theorem dX7_knownDays_0 : decode cX7_knownDays 0 = .ok (.aload_n 0, 1) := by decide +kernel
theorem dX7_knownDays_1 : decode cX7_knownDays 1 = .ok (.aload_n 0, 1) := by decide +kernel
theorem dX7_knownDays_2 : decode cX7_knownDays 2 = .ok (.iload_n 1, 1) := by decide +kernel
theorem dX7_knownDays_3 : decode cX7_knownDays 3 = .ok (.iload_n 2, 1) := by decide +kernel
theorem dX7_knownDays_4 : decode cX7_knownDays 4 = .ok (.iload_n 3, 1) := by decide +kernel
theorem dX7_knownDays_5 : decode cX7_knownDays 5 = .ok (.invokevirtual 133, 3) := by decide +kernel
theorem dX7_knownDays_8 : decode cX7_knownDays 8 = .ok (.invokevirtual 71, 3) := by decide +kernel
theorem dX7_knownDays_11 : decode cX7_knownDays 11 = .ok (.ifCond .ne 5, 3) := by decide +kernel
theorem dX7_knownDays_14 : decode cX7_knownDays 14 = .ok (.iconst 0, 1) := by decide +kernel
theorem dX7_knownDays_15 : decode cX7_knownDays 15 = .ok (.ireturn, 1) := by decide +kernel
theorem dX7_knownDays_16 : decode cX7_knownDays 16 = .ok (.aload_n 0, 1) := by decide +kernel
theorem dX7_knownDays_17 : decode cX7_knownDays 17 = .ok (.aload_n 0, 1) := by decide +kernel
theorem dX7_knownDays_18 : decode cX7_knownDays 18 = .ok (.getfield 39, 3) := by decide +kernel
theorem dX7_knownDays_21 : decode cX7_knownDays 21 = .ok (.iload_n 1, 1) := by decide +kernel
theorem dX7_knownDays_22 : decode cX7_knownDays 22 = .ok (.iload_n 2, 1) := by decide +kernel
theorem dX7_knownDays_23 : decode cX7_knownDays 23 = .ok (.invokestatic 103, 3) := by decide +kernel
theorem dX7_knownDays_26 : decode cX7_knownDays 26 = .ok (.iload_n 3, 1) := by decide +kernel
theorem dX7_knownDays_27 : decode cX7_knownDays 27 = .ok (.invokevirtual 111, 3) := by decide +kernel
theorem dX7_knownDays_30 : decode cX7_knownDays 30 = .ok (.iconst 0, 1) := by decide +kernel
theorem dX7_knownDays_31 : decode cX7_knownDays 31 = .ok (.istore 4, 2) := by decide +kernel
theorem dX7_knownDays_33 : decode cX7_knownDays 33 = .ok (.iconst 0, 1) := by decide +kernel
theorem dX7_knownDays_34 : decode cX7_knownDays 34 = .ok (.istore 5, 2) := by decide +kernel
theorem dX7_knownDays_36 : decode cX7_knownDays 36 = .ok (.iload 5, 2) := by decide +kernel
theorem dX7_knownDays_38 : decode cX7_knownDays 38 = .ok (.bipush 100, 2) := by decide +kernel
theorem dX7_knownDays_40 : decode cX7_knownDays 40 = .ok (.if_icmp .ge 30, 3) := by decide +kernel
theorem dX7_knownDays_43 : decode cX7_knownDays 43 = .ok (.iload 4, 2) := by decide +kernel
theorem dX7_knownDays_45 : decode cX7_knownDays 45 = .ok (.aload_n 0, 1) := by decide +kernel
theorem dX7_knownDays_46 : decode cX7_knownDays 46 = .ok (.getfield 39, 3) := by decide +kernel
theorem dX7_knownDays_49 : decode cX7_knownDays 49 = .ok (.iload 5, 2) := by decide +kernel
theorem dX7_knownDays_51 : decode cX7_knownDays 51 = .ok (.iaload, 1) := by decide +kernel
theorem dX7_knownDays_52 : decode cX7_knownDays 52 = .ok (.iconst (-1), 1) := by decide +kernel
theorem dX7_knownDays_53 : decode cX7_knownDays 53 = .ok (.if_icmp .ne 7, 3) := by decide +kernel
theorem dX7_knownDays_56 : decode cX7_knownDays 56 = .ok (.iconst 0, 1) := by decide +kernel
theorem dX7_knownDays_57 : decode cX7_knownDays 57 = .ok (.goto 4, 3) := by decide +kernel
theorem dX7_knownDays_60 : decode cX7_knownDays 60 = .ok (.iconst 1, 1) := by decide +kernel
theorem dX7_knownDays_61 : decode cX7_knownDays 61 = .ok (.iadd, 1) := by decide +kernel
theorem dX7_knownDays_62 : decode cX7_knownDays 62 = .ok (.istore 4, 2) := by decide +kernel
theorem dX7_knownDays_64 : decode cX7_knownDays 64 = .ok (.iinc 5 1, 3) := by decide +kernel
theorem dX7_knownDays_67 : decode cX7_knownDays 67 = .ok (.goto (-31), 3) := by decide +kernel
theorem dX7_knownDays_70 : decode cX7_knownDays 70 = .ok (.iload 4, 2) := by decide +kernel
theorem dX7_knownDays_72 : decode cX7_knownDays 72 = .ok (.ireturn, 1) := by decide +kernel
theorem dX7_isLike_0 : decode cX7_isLike 0 = .ok (.aload_n 1, 1) := by decide +kernel
theorem dX7_isLike_1 : decode cX7_isLike 1 = .ok (.iload_n 2, 1) := by decide +kernel
theorem dX7_isLike_2 : decode cX7_isLike 2 = .ok (.iaload, 1) := by decide +kernel
theorem dX7_isLike_3 : decode cX7_isLike 3 = .ok (.iconst (-1), 1) := by decide +kernel
theorem dX7_isLike_4 : decode cX7_isLike 4 = .ok (.if_icmp .eq 33, 3) := by decide +kernel
theorem dX7_isLike_7 : decode cX7_isLike 7 = .ok (.aload_n 1, 1) := by decide +kernel
theorem dX7_isLike_8 : decode cX7_isLike 8 = .ok (.iload_n 3, 1) := by decide +kernel
theorem dX7_isLike_9 : decode cX7_isLike 9 = .ok (.iaload, 1) := by decide +kernel
theorem dX7_isLike_10 : decode cX7_isLike 10 = .ok (.iconst (-1), 1) := by decide +kernel
theorem dX7_isLike_11 : decode cX7_isLike 11 = .ok (.if_icmp .eq 26, 3) := by decide +kernel
theorem dX7_isLike_14 : decode cX7_isLike 14 = .ok (.aload_n 0, 1) := by decide +kernel
theorem dX7_isLike_15 : decode cX7_isLike 15 = .ok (.getfield 20, 3) := by decide +kernel
theorem dX7_isLike_18 : decode cX7_isLike 18 = .ok (.aload_n 1, 1) := by decide +kernel
theorem dX7_isLike_19 : decode cX7_isLike 19 = .ok (.iload_n 2, 1) := by decide +kernel
theorem dX7_isLike_20 : decode cX7_isLike 20 = .ok (.iaload, 1) := by decide +kernel
theorem dX7_isLike_21 : decode cX7_isLike 21 = .ok (.iaload, 1) := by decide +kernel
theorem dX7_isLike_22 : decode cX7_isLike 22 = .ok (.aload_n 0, 1) := by decide +kernel
theorem dX7_isLike_23 : decode cX7_isLike 23 = .ok (.getfield 20, 3) := by decide +kernel
theorem dX7_isLike_26 : decode cX7_isLike 26 = .ok (.aload_n 1, 1) := by decide +kernel
theorem dX7_isLike_27 : decode cX7_isLike 27 = .ok (.iload_n 3, 1) := by decide +kernel
theorem dX7_isLike_28 : decode cX7_isLike 28 = .ok (.iaload, 1) := by decide +kernel
theorem dX7_isLike_29 : decode cX7_isLike 29 = .ok (.iaload, 1) := by decide +kernel
theorem dX7_isLike_30 : decode cX7_isLike 30 = .ok (.if_icmp .ne 7, 3) := by decide +kernel
theorem dX7_isLike_33 : decode cX7_isLike 33 = .ok (.iconst 1, 1) := by decide +kernel
theorem dX7_isLike_34 : decode cX7_isLike 34 = .ok (.goto 4, 3) := by decide +kernel
theorem dX7_isLike_37 : decode cX7_isLike 37 = .ok (.iconst 0, 1) := by decide +kernel
theorem dX7_isLike_38 : decode cX7_isLike 38 = .ok (.ireturn, 1) := by decide +kernel
theorem dX7_finds_0 : decode cX7_finds 0 = .ok (.aload_n 0, 1) := by decide +kernel
theorem dX7_finds_1 : decode cX7_finds 1 = .ok (.iconst 0, 1) := by decide +kernel
theorem dX7_finds_2 : decode cX7_finds 2 = .ok (.putfield 136, 3) := by decide +kernel
theorem dX7_finds_5 : decode cX7_finds 5 = .ok (.iconst 0, 1) := by decide +kernel
theorem dX7_finds_6 : decode cX7_finds 6 = .ok (.istore_n 2, 1) := by decide +kernel
theorem dX7_finds_7 : decode cX7_finds 7 = .ok (.iload_n 2, 1) := by decide +kernel
theorem dX7_finds_8 : decode cX7_finds 8 = .ok (.bipush 100, 2) := by decide +kernel
theorem dX7_finds_10 : decode cX7_finds 10 = .ok (.if_icmp .ge 136, 3) := by decide +kernel
theorem dX7_finds_13 : decode cX7_finds 13 = .ok (.aload_n 0, 1) := by decide +kernel
theorem dX7_finds_14 : decode cX7_finds 14 = .ok (.getfield 39, 3) := by decide +kernel
theorem dX7_finds_17 : decode cX7_finds 17 = .ok (.iload_n 2, 1) := by decide +kernel
theorem dX7_finds_18 : decode cX7_finds 18 = .ok (.iaload, 1) := by decide +kernel
theorem dX7_finds_19 : decode cX7_finds 19 = .ok (.iconst (-1), 1) := by decide +kernel
theorem dX7_finds_20 : decode cX7_finds 20 = .ok (.if_icmp .eq 120, 3) := by decide +kernel
theorem dX7_finds_23 : decode cX7_finds 23 = .ok (.iload_n 1, 1) := by decide +kernel
theorem dX7_finds_24 : decode cX7_finds 24 = .ok (.ifCond .eq 16, 3) := by decide +kernel
theorem dX7_finds_27 : decode cX7_finds 27 = .ok (.aload_n 0, 1) := by decide +kernel
theorem dX7_finds_28 : decode cX7_finds 28 = .ok (.getfield 42, 3) := by decide +kernel
theorem dX7_finds_31 : decode cX7_finds 31 = .ok (.iload_n 2, 1) := by decide +kernel
theorem dX7_finds_32 : decode cX7_finds 32 = .ok (.iaload, 1) := by decide +kernel
theorem dX7_finds_33 : decode cX7_finds 33 = .ok (.iconst (-1), 1) := by decide +kernel
theorem dX7_finds_34 : decode cX7_finds 34 = .ok (.if_icmp .ne 6, 3) := by decide +kernel
theorem dX7_finds_37 : decode cX7_finds 37 = .ok (.goto 103, 3) := by decide +kernel
theorem dX7_finds_40 : decode cX7_finds 40 = .ok (.aload_n 0, 1) := by decide +kernel
theorem dX7_finds_41 : decode cX7_finds 41 = .ok (.getfield 136, 3) := by decide +kernel
theorem dX7_finds_44 : decode cX7_finds 44 = .ok (.ifCond .le 56, 3) := by decide +kernel
theorem dX7_finds_47 : decode cX7_finds 47 = .ok (.aload_n 0, 1) := by decide +kernel
theorem dX7_finds_48 : decode cX7_finds 48 = .ok (.getfield 48, 3) := by decide +kernel
theorem dX7_finds_51 : decode cX7_finds 51 = .ok (.aload_n 0, 1) := by decide +kernel
theorem dX7_finds_52 : decode cX7_finds 52 = .ok (.getfield 136, 3) := by decide +kernel
theorem dX7_finds_55 : decode cX7_finds 55 = .ok (.iconst 1, 1) := by decide +kernel
theorem dX7_finds_56 : decode cX7_finds 56 = .ok (.isub, 1) := by decide +kernel
theorem dX7_finds_57 : decode cX7_finds 57 = .ok (.iaload, 1) := by decide +kernel
theorem dX7_finds_58 : decode cX7_finds 58 = .ok (.iload_n 2, 1) := by decide +kernel
theorem dX7_finds_59 : decode cX7_finds 59 = .ok (.if_icmp .ne 41, 3) := by decide +kernel
theorem dX7_finds_62 : decode cX7_finds 62 = .ok (.aload_n 0, 1) := by decide +kernel
theorem dX7_finds_63 : decode cX7_finds 63 = .ok (.aload_n 0, 1) := by decide +kernel
theorem dX7_finds_64 : decode cX7_finds 64 = .ok (.getfield 39, 3) := by decide +kernel
theorem dX7_finds_67 : decode cX7_finds 67 = .ok (.iload_n 2, 1) := by decide +kernel
theorem dX7_finds_68 : decode cX7_finds 68 = .ok (.iload_n 2, 1) := by decide +kernel
theorem dX7_finds_69 : decode cX7_finds 69 = .ok (.iconst 1, 1) := by decide +kernel
theorem dX7_finds_70 : decode cX7_finds 70 = .ok (.isub, 1) := by decide +kernel
theorem dX7_finds_71 : decode cX7_finds 71 = .ok (.invokevirtual 139, 3) := by decide +kernel
theorem dX7_finds_74 : decode cX7_finds 74 = .ok (.ifCond .eq 26, 3) := by decide +kernel
theorem dX7_finds_77 : decode cX7_finds 77 = .ok (.iload_n 1, 1) := by decide +kernel
theorem dX7_finds_78 : decode cX7_finds 78 = .ok (.ifCond .eq 18, 3) := by decide +kernel
theorem dX7_finds_81 : decode cX7_finds 81 = .ok (.aload_n 0, 1) := by decide +kernel
theorem dX7_finds_82 : decode cX7_finds 82 = .ok (.aload_n 0, 1) := by decide +kernel
theorem dX7_finds_83 : decode cX7_finds 83 = .ok (.getfield 42, 3) := by decide +kernel
theorem dX7_finds_86 : decode cX7_finds 86 = .ok (.iload_n 2, 1) := by decide +kernel
theorem dX7_finds_87 : decode cX7_finds 87 = .ok (.iload_n 2, 1) := by decide +kernel
theorem dX7_finds_88 : decode cX7_finds 88 = .ok (.iconst 1, 1) := by decide +kernel
theorem dX7_finds_89 : decode cX7_finds 89 = .ok (.isub, 1) := by decide +kernel
theorem dX7_finds_90 : decode cX7_finds 90 = .ok (.invokevirtual 139, 3) := by decide +kernel
theorem dX7_finds_93 : decode cX7_finds 93 = .ok (.ifCond .eq 7, 3) := by decide +kernel
theorem dX7_finds_96 : decode cX7_finds 96 = .ok (.iconst 1, 1) := by decide +kernel
theorem dX7_finds_97 : decode cX7_finds 97 = .ok (.goto 4, 3) := by decide +kernel
theorem dX7_finds_100 : decode cX7_finds 100 = .ok (.iconst 0, 1) := by decide +kernel
theorem dX7_finds_101 : decode cX7_finds 101 = .ok (.istore_n 3, 1) := by decide +kernel
theorem dX7_finds_102 : decode cX7_finds 102 = .ok (.iload_n 3, 1) := by decide +kernel
theorem dX7_finds_103 : decode cX7_finds 103 = .ok (.ifCond .ne 23, 3) := by decide +kernel
theorem dX7_finds_106 : decode cX7_finds 106 = .ok (.aload_n 0, 1) := by decide +kernel
theorem dX7_finds_107 : decode cX7_finds 107 = .ok (.getfield 45, 3) := by decide +kernel
theorem dX7_finds_110 : decode cX7_finds 110 = .ok (.aload_n 0, 1) := by decide +kernel
theorem dX7_finds_111 : decode cX7_finds 111 = .ok (.getfield 136, 3) := by decide +kernel
theorem dX7_finds_114 : decode cX7_finds 114 = .ok (.iload_n 2, 1) := by decide +kernel
theorem dX7_finds_115 : decode cX7_finds 115 = .ok (.iastore, 1) := by decide +kernel
theorem dX7_finds_116 : decode cX7_finds 116 = .ok (.aload_n 0, 1) := by decide +kernel
theorem dX7_finds_117 : decode cX7_finds 117 = .ok (.dup, 1) := by decide +kernel
theorem dX7_finds_118 : decode cX7_finds 118 = .ok (.getfield 136, 3) := by decide +kernel
theorem dX7_finds_121 : decode cX7_finds 121 = .ok (.iconst 1, 1) := by decide +kernel
theorem dX7_finds_122 : decode cX7_finds 122 = .ok (.iadd, 1) := by decide +kernel
theorem dX7_finds_123 : decode cX7_finds 123 = .ok (.putfield 136, 3) := by decide +kernel
theorem dX7_finds_126 : decode cX7_finds 126 = .ok (.aload_n 0, 1) := by decide +kernel
theorem dX7_finds_127 : decode cX7_finds 127 = .ok (.getfield 48, 3) := by decide +kernel
theorem dX7_finds_130 : decode cX7_finds 130 = .ok (.aload_n 0, 1) := by decide +kernel
theorem dX7_finds_131 : decode cX7_finds 131 = .ok (.getfield 136, 3) := by decide +kernel
theorem dX7_finds_134 : decode cX7_finds 134 = .ok (.iconst 1, 1) := by decide +kernel
theorem dX7_finds_135 : decode cX7_finds 135 = .ok (.isub, 1) := by decide +kernel
theorem dX7_finds_136 : decode cX7_finds 136 = .ok (.iload_n 2, 1) := by decide +kernel
theorem dX7_finds_137 : decode cX7_finds 137 = .ok (.iconst 1, 1) := by decide +kernel
theorem dX7_finds_138 : decode cX7_finds 138 = .ok (.iadd, 1) := by decide +kernel
theorem dX7_finds_139 : decode cX7_finds 139 = .ok (.iastore, 1) := by decide +kernel
theorem dX7_finds_140 : decode cX7_finds 140 = .ok (.iinc 2 1, 3) := by decide +kernel
theorem dX7_finds_143 : decode cX7_finds 143 = .ok (.goto (-136), 3) := by decide +kernel
theorem dX7_finds_146 : decode cX7_finds 146 = .ok (.return_, 1) := by decide +kernel
theorem dX7_findsPeriods_0 : decode cX7_findsPeriods 0 = .ok (.aload_n 0, 1) := by decide +kernel
theorem dX7_findsPeriods_1 : decode cX7_findsPeriods 1 = .ok (.aload_n 0, 1) := by decide +kernel
theorem dX7_findsPeriods_2 : decode cX7_findsPeriods 2 = .ok (.iload_n 1, 1) := by decide +kernel
theorem dX7_findsPeriods_3 : decode cX7_findsPeriods 3 = .ok (.iload_n 2, 1) := by decide +kernel
theorem dX7_findsPeriods_4 : decode cX7_findsPeriods 4 = .ok (.iload_n 3, 1) := by decide +kernel
theorem dX7_findsPeriods_5 : decode cX7_findsPeriods 5 = .ok (.invokevirtual 133, 3) := by decide +kernel
theorem dX7_findsPeriods_8 : decode cX7_findsPeriods 8 = .ok (.invokevirtual 71, 3) := by decide +kernel
theorem dX7_findsPeriods_11 : decode cX7_findsPeriods 11 = .ok (.ifCond .ne 5, 3) := by decide +kernel
theorem dX7_findsPeriods_14 : decode cX7_findsPeriods 14 = .ok (.iconst 0, 1) := by decide +kernel
theorem dX7_findsPeriods_15 : decode cX7_findsPeriods 15 = .ok (.ireturn, 1) := by decide +kernel
theorem dX7_findsPeriods_16 : decode cX7_findsPeriods 16 = .ok (.aload_n 0, 1) := by decide +kernel
theorem dX7_findsPeriods_17 : decode cX7_findsPeriods 17 = .ok (.aload_n 0, 1) := by decide +kernel
theorem dX7_findsPeriods_18 : decode cX7_findsPeriods 18 = .ok (.getfield 39, 3) := by decide +kernel
theorem dX7_findsPeriods_21 : decode cX7_findsPeriods 21 = .ok (.iload_n 1, 1) := by decide +kernel
theorem dX7_findsPeriods_22 : decode cX7_findsPeriods 22 = .ok (.iload_n 2, 1) := by decide +kernel
theorem dX7_findsPeriods_23 : decode cX7_findsPeriods 23 = .ok (.invokestatic 103, 3) := by decide +kernel
theorem dX7_findsPeriods_26 : decode cX7_findsPeriods 26 = .ok (.iload_n 3, 1) := by decide +kernel
theorem dX7_findsPeriods_27 : decode cX7_findsPeriods 27 = .ok (.invokevirtual 111, 3) := by decide +kernel
theorem dX7_findsPeriods_30 : decode cX7_findsPeriods 30 = .ok (.aload_n 0, 1) := by decide +kernel
theorem dX7_findsPeriods_31 : decode cX7_findsPeriods 31 = .ok (.iconst 0, 1) := by decide +kernel
theorem dX7_findsPeriods_32 : decode cX7_findsPeriods 32 = .ok (.invokevirtual 143, 3) := by decide +kernel
theorem dX7_findsPeriods_35 : decode cX7_findsPeriods 35 = .ok (.iconst 1, 1) := by decide +kernel
theorem dX7_findsPeriods_36 : decode cX7_findsPeriods 36 = .ok (.ireturn, 1) := by decide +kernel
theorem dX7_findsPeriod_0 : decode cX7_findsPeriod 0 = .ok (.aload_n 0, 1) := by decide +kernel
theorem dX7_findsPeriod_1 : decode cX7_findsPeriod 1 = .ok (.iload_n 1, 1) := by decide +kernel
theorem dX7_findsPeriod_2 : decode cX7_findsPeriod 2 = .ok (.iload_n 2, 1) := by decide +kernel
theorem dX7_findsPeriod_3 : decode cX7_findsPeriod 3 = .ok (.iload_n 3, 1) := by decide +kernel
theorem dX7_findsPeriod_4 : decode cX7_findsPeriod 4 = .ok (.invokevirtual 147, 3) := by decide +kernel
theorem dX7_findsPeriod_7 : decode cX7_findsPeriod 7 = .ok (.ifCond .eq 34, 3) := by decide +kernel
theorem dX7_findsPeriod_10 : decode cX7_findsPeriod 10 = .ok (.aload_n 0, 1) := by decide +kernel
theorem dX7_findsPeriod_11 : decode cX7_findsPeriod 11 = .ok (.iload 4, 2) := by decide +kernel
theorem dX7_findsPeriod_13 : decode cX7_findsPeriod 13 = .ok (.iconst 0, 1) := by decide +kernel
theorem dX7_findsPeriod_14 : decode cX7_findsPeriod 14 = .ok (.aload_n 0, 1) := by decide +kernel
theorem dX7_findsPeriod_15 : decode cX7_findsPeriod 15 = .ok (.getfield 136, 3) := by decide +kernel
theorem dX7_findsPeriod_18 : decode cX7_findsPeriod 18 = .ok (.iconst 1, 1) := by decide +kernel
theorem dX7_findsPeriod_19 : decode cX7_findsPeriod 19 = .ok (.isub, 1) := by decide +kernel
theorem dX7_findsPeriod_20 : decode cX7_findsPeriod 20 = .ok (.invokestatic 67, 3) := by decide +kernel
theorem dX7_findsPeriod_23 : decode cX7_findsPeriod 23 = .ok (.ifCond .eq 7, 3) := by decide +kernel
theorem dX7_findsPeriod_26 : decode cX7_findsPeriod 26 = .ok (.iconst 0, 1) := by decide +kernel
theorem dX7_findsPeriod_27 : decode cX7_findsPeriod 27 = .ok (.goto 4, 3) := by decide +kernel
theorem dX7_findsPeriod_30 : decode cX7_findsPeriod 30 = .ok (.iconst 4, 1) := by decide +kernel
theorem dX7_findsPeriod_31 : decode cX7_findsPeriod 31 = .ok (.invokevirtual 71, 3) := by decide +kernel
theorem dX7_findsPeriod_34 : decode cX7_findsPeriod 34 = .ok (.ifCond .eq 7, 3) := by decide +kernel
theorem dX7_findsPeriod_37 : decode cX7_findsPeriod 37 = .ok (.iconst 1, 1) := by decide +kernel
theorem dX7_findsPeriod_38 : decode cX7_findsPeriod 38 = .ok (.goto 4, 3) := by decide +kernel
theorem dX7_findsPeriod_41 : decode cX7_findsPeriod 41 = .ok (.iconst 0, 1) := by decide +kernel
theorem dX7_findsPeriod_42 : decode cX7_findsPeriod 42 = .ok (.ireturn, 1) := by decide +kernel
theorem dX7_periodCount_0 : decode cX7_periodCount 0 = .ok (.aload_n 0, 1) := by decide +kernel
theorem dX7_periodCount_1 : decode cX7_periodCount 1 = .ok (.iload_n 1, 1) := by decide +kernel
theorem dX7_periodCount_2 : decode cX7_periodCount 2 = .ok (.iload_n 2, 1) := by decide +kernel
theorem dX7_periodCount_3 : decode cX7_periodCount 3 = .ok (.iload_n 3, 1) := by decide +kernel
theorem dX7_periodCount_4 : decode cX7_periodCount 4 = .ok (.invokevirtual 147, 3) := by decide +kernel
theorem dX7_periodCount_7 : decode cX7_periodCount 7 = .ok (.ifCond .eq 10, 3) := by decide +kernel
theorem dX7_periodCount_10 : decode cX7_periodCount 10 = .ok (.aload_n 0, 1) := by decide +kernel
theorem dX7_periodCount_11 : decode cX7_periodCount 11 = .ok (.getfield 136, 3) := by decide +kernel
theorem dX7_periodCount_14 : decode cX7_periodCount 14 = .ok (.goto 4, 3) := by decide +kernel
theorem dX7_periodCount_17 : decode cX7_periodCount 17 = .ok (.iconst 0, 1) := by decide +kernel
theorem dX7_periodCount_18 : decode cX7_periodCount 18 = .ok (.ireturn, 1) := by decide +kernel
theorem dX7_periodFrom_0 : decode cX7_periodFrom 0 = .ok (.aload_n 0, 1) := by decide +kernel
theorem dX7_periodFrom_1 : decode cX7_periodFrom 1 = .ok (.iload_n 1, 1) := by decide +kernel
theorem dX7_periodFrom_2 : decode cX7_periodFrom 2 = .ok (.iload_n 2, 1) := by decide +kernel
theorem dX7_periodFrom_3 : decode cX7_periodFrom 3 = .ok (.iload_n 3, 1) := by decide +kernel
theorem dX7_periodFrom_4 : decode cX7_periodFrom 4 = .ok (.iload 4, 2) := by decide +kernel
theorem dX7_periodFrom_6 : decode cX7_periodFrom 6 = .ok (.invokevirtual 150, 3) := by decide +kernel
theorem dX7_periodFrom_9 : decode cX7_periodFrom 9 = .ok (.ifCond .eq 13, 3) := by decide +kernel
theorem dX7_periodFrom_12 : decode cX7_periodFrom 12 = .ok (.aload_n 0, 1) := by decide +kernel
theorem dX7_periodFrom_13 : decode cX7_periodFrom 13 = .ok (.getfield 45, 3) := by decide +kernel
theorem dX7_periodFrom_16 : decode cX7_periodFrom 16 = .ok (.iload 4, 2) := by decide +kernel
theorem dX7_periodFrom_18 : decode cX7_periodFrom 18 = .ok (.iaload, 1) := by decide +kernel
theorem dX7_periodFrom_19 : decode cX7_periodFrom 19 = .ok (.goto 4, 3) := by decide +kernel
theorem dX7_periodFrom_22 : decode cX7_periodFrom 22 = .ok (.iconst 0, 1) := by decide +kernel
theorem dX7_periodFrom_23 : decode cX7_periodFrom 23 = .ok (.ireturn, 1) := by decide +kernel
theorem dX7_periodTo_0 : decode cX7_periodTo 0 = .ok (.aload_n 0, 1) := by decide +kernel
theorem dX7_periodTo_1 : decode cX7_periodTo 1 = .ok (.iload_n 1, 1) := by decide +kernel
theorem dX7_periodTo_2 : decode cX7_periodTo 2 = .ok (.iload_n 2, 1) := by decide +kernel
theorem dX7_periodTo_3 : decode cX7_periodTo 3 = .ok (.iload_n 3, 1) := by decide +kernel
theorem dX7_periodTo_4 : decode cX7_periodTo 4 = .ok (.iload 4, 2) := by decide +kernel
theorem dX7_periodTo_6 : decode cX7_periodTo 6 = .ok (.invokevirtual 150, 3) := by decide +kernel
theorem dX7_periodTo_9 : decode cX7_periodTo 9 = .ok (.ifCond .eq 13, 3) := by decide +kernel
theorem dX7_periodTo_12 : decode cX7_periodTo 12 = .ok (.aload_n 0, 1) := by decide +kernel
theorem dX7_periodTo_13 : decode cX7_periodTo 13 = .ok (.getfield 48, 3) := by decide +kernel
theorem dX7_periodTo_16 : decode cX7_periodTo 16 = .ok (.iload 4, 2) := by decide +kernel
theorem dX7_periodTo_18 : decode cX7_periodTo 18 = .ok (.iaload, 1) := by decide +kernel
theorem dX7_periodTo_19 : decode cX7_periodTo 19 = .ok (.goto 4, 3) := by decide +kernel
theorem dX7_periodTo_22 : decode cX7_periodTo 22 = .ok (.iconst 0, 1) := by decide +kernel
theorem dX7_periodTo_23 : decode cX7_periodTo 23 = .ok (.ireturn, 1) := by decide +kernel
theorem dX7_periodValue_0 : decode cX7_periodValue 0 = .ok (.aload_n 0, 1) := by decide +kernel
theorem dX7_periodValue_1 : decode cX7_periodValue 1 = .ok (.iload_n 1, 1) := by decide +kernel
theorem dX7_periodValue_2 : decode cX7_periodValue 2 = .ok (.iload_n 2, 1) := by decide +kernel
theorem dX7_periodValue_3 : decode cX7_periodValue 3 = .ok (.iload_n 3, 1) := by decide +kernel
theorem dX7_periodValue_4 : decode cX7_periodValue 4 = .ok (.iload 4, 2) := by decide +kernel
theorem dX7_periodValue_6 : decode cX7_periodValue 6 = .ok (.invokevirtual 150, 3) := by decide +kernel
theorem dX7_periodValue_9 : decode cX7_periodValue 9 = .ok (.ifCond .eq 23, 3) := by decide +kernel
theorem dX7_periodValue_12 : decode cX7_periodValue 12 = .ok (.aload_n 0, 1) := by decide +kernel
theorem dX7_periodValue_13 : decode cX7_periodValue 13 = .ok (.getfield 20, 3) := by decide +kernel
theorem dX7_periodValue_16 : decode cX7_periodValue 16 = .ok (.aload_n 0, 1) := by decide +kernel
theorem dX7_periodValue_17 : decode cX7_periodValue 17 = .ok (.getfield 39, 3) := by decide +kernel
theorem dX7_periodValue_20 : decode cX7_periodValue 20 = .ok (.aload_n 0, 1) := by decide +kernel
theorem dX7_periodValue_21 : decode cX7_periodValue 21 = .ok (.getfield 45, 3) := by decide +kernel
theorem dX7_periodValue_24 : decode cX7_periodValue 24 = .ok (.iload 4, 2) := by decide +kernel
theorem dX7_periodValue_26 : decode cX7_periodValue 26 = .ok (.iaload, 1) := by decide +kernel
theorem dX7_periodValue_27 : decode cX7_periodValue 27 = .ok (.iaload, 1) := by decide +kernel
theorem dX7_periodValue_28 : decode cX7_periodValue 28 = .ok (.iaload, 1) := by decide +kernel
theorem dX7_periodValue_29 : decode cX7_periodValue 29 = .ok (.goto 4, 3) := by decide +kernel
theorem dX7_periodValue_32 : decode cX7_periodValue 32 = .ok (.iconst 0, 1) := by decide +kernel
theorem dX7_periodValue_33 : decode cX7_periodValue 33 = .ok (.ireturn, 1) := by decide +kernel
theorem dX7_integral_0 : decode cX7_integral 0 = .ok (.aload_n 0, 1) := by decide +kernel
theorem dX7_integral_1 : decode cX7_integral 1 = .ok (.aload_n 0, 1) := by decide +kernel
theorem dX7_integral_2 : decode cX7_integral 2 = .ok (.iload_n 1, 1) := by decide +kernel
theorem dX7_integral_3 : decode cX7_integral 3 = .ok (.iload_n 2, 1) := by decide +kernel
theorem dX7_integral_4 : decode cX7_integral 4 = .ok (.iload_n 3, 1) := by decide +kernel
theorem dX7_integral_5 : decode cX7_integral 5 = .ok (.invokevirtual 133, 3) := by decide +kernel
theorem dX7_integral_8 : decode cX7_integral 8 = .ok (.invokevirtual 71, 3) := by decide +kernel
theorem dX7_integral_11 : decode cX7_integral 11 = .ok (.ifCond .ne 5, 3) := by decide +kernel
theorem dX7_integral_14 : decode cX7_integral 14 = .ok (.lconst 0, 1) := by decide +kernel
theorem dX7_integral_15 : decode cX7_integral 15 = .ok (.lreturn, 1) := by decide +kernel
theorem dX7_integral_16 : decode cX7_integral 16 = .ok (.aload_n 0, 1) := by decide +kernel
theorem dX7_integral_17 : decode cX7_integral 17 = .ok (.aload_n 0, 1) := by decide +kernel
theorem dX7_integral_18 : decode cX7_integral 18 = .ok (.getfield 39, 3) := by decide +kernel
theorem dX7_integral_21 : decode cX7_integral 21 = .ok (.iload_n 1, 1) := by decide +kernel
theorem dX7_integral_22 : decode cX7_integral 22 = .ok (.iload_n 2, 1) := by decide +kernel
theorem dX7_integral_23 : decode cX7_integral 23 = .ok (.invokestatic 103, 3) := by decide +kernel
theorem dX7_integral_26 : decode cX7_integral 26 = .ok (.iload_n 3, 1) := by decide +kernel
theorem dX7_integral_27 : decode cX7_integral 27 = .ok (.invokevirtual 111, 3) := by decide +kernel
theorem dX7_integral_30 : decode cX7_integral 30 = .ok (.lconst 0, 1) := by decide +kernel
theorem dX7_integral_31 : decode cX7_integral 31 = .ok (.lstore 4, 2) := by decide +kernel
theorem dX7_integral_33 : decode cX7_integral 33 = .ok (.iconst 0, 1) := by decide +kernel
theorem dX7_integral_34 : decode cX7_integral 34 = .ok (.istore 6, 2) := by decide +kernel
theorem dX7_integral_36 : decode cX7_integral 36 = .ok (.iload 6, 2) := by decide +kernel
theorem dX7_integral_38 : decode cX7_integral 38 = .ok (.bipush 100, 2) := by decide +kernel
theorem dX7_integral_40 : decode cX7_integral 40 = .ok (.if_icmp .ge 42, 3) := by decide +kernel
theorem dX7_integral_43 : decode cX7_integral 43 = .ok (.lload 4, 2) := by decide +kernel
theorem dX7_integral_45 : decode cX7_integral 45 = .ok (.aload_n 0, 1) := by decide +kernel
theorem dX7_integral_46 : decode cX7_integral 46 = .ok (.getfield 39, 3) := by decide +kernel
theorem dX7_integral_49 : decode cX7_integral 49 = .ok (.iload 6, 2) := by decide +kernel
theorem dX7_integral_51 : decode cX7_integral 51 = .ok (.iaload, 1) := by decide +kernel
theorem dX7_integral_52 : decode cX7_integral 52 = .ok (.iconst (-1), 1) := by decide +kernel
theorem dX7_integral_53 : decode cX7_integral 53 = .ok (.if_icmp .ne 7, 3) := by decide +kernel
theorem dX7_integral_56 : decode cX7_integral 56 = .ok (.lconst 0, 1) := by decide +kernel
theorem dX7_integral_57 : decode cX7_integral 57 = .ok (.goto 16, 3) := by decide +kernel
theorem dX7_integral_60 : decode cX7_integral 60 = .ok (.aload_n 0, 1) := by decide +kernel
theorem dX7_integral_61 : decode cX7_integral 61 = .ok (.getfield 20, 3) := by decide +kernel
theorem dX7_integral_64 : decode cX7_integral 64 = .ok (.aload_n 0, 1) := by decide +kernel
theorem dX7_integral_65 : decode cX7_integral 65 = .ok (.getfield 39, 3) := by decide +kernel
theorem dX7_integral_68 : decode cX7_integral 68 = .ok (.iload 6, 2) := by decide +kernel
theorem dX7_integral_70 : decode cX7_integral 70 = .ok (.iaload, 1) := by decide +kernel
theorem dX7_integral_71 : decode cX7_integral 71 = .ok (.iaload, 1) := by decide +kernel
theorem dX7_integral_72 : decode cX7_integral 72 = .ok (.i2l, 1) := by decide +kernel
theorem dX7_integral_73 : decode cX7_integral 73 = .ok (.ladd, 1) := by decide +kernel
theorem dX7_integral_74 : decode cX7_integral 74 = .ok (.lstore 4, 2) := by decide +kernel
theorem dX7_integral_76 : decode cX7_integral 76 = .ok (.iinc 6 1, 3) := by decide +kernel
theorem dX7_integral_79 : decode cX7_integral 79 = .ok (.goto (-43), 3) := by decide +kernel
theorem dX7_integral_82 : decode cX7_integral 82 = .ok (.lload 4, 2) := by decide +kernel
theorem dX7_integral_84 : decode cX7_integral 84 = .ok (.lreturn, 1) := by decide +kernel
theorem dX7_changedDays_0 : decode cX7_changedDays 0 = .ok (.aload_n 0, 1) := by decide +kernel
theorem dX7_changedDays_1 : decode cX7_changedDays 1 = .ok (.iload_n 1, 1) := by decide +kernel
theorem dX7_changedDays_2 : decode cX7_changedDays 2 = .ok (.iload_n 2, 1) := by decide +kernel
theorem dX7_changedDays_3 : decode cX7_changedDays 3 = .ok (.invokevirtual 92, 3) := by decide +kernel
theorem dX7_changedDays_6 : decode cX7_changedDays 6 = .ok (.ifCond .ne 7, 3) := by decide +kernel
theorem dX7_changedDays_9 : decode cX7_changedDays 9 = .ok (.iconst 1, 1) := by decide +kernel
theorem dX7_changedDays_10 : decode cX7_changedDays 10 = .ok (.goto 54, 3) := by decide +kernel
theorem dX7_changedDays_13 : decode cX7_changedDays 13 = .ok (.iload_n 3, 1) := by decide +kernel
theorem dX7_changedDays_14 : decode cX7_changedDays 14 = .ok (.iconst 0, 1) := by decide +kernel
theorem dX7_changedDays_15 : decode cX7_changedDays 15 = .ok (.aload_n 0, 1) := by decide +kernel
theorem dX7_changedDays_16 : decode cX7_changedDays 16 = .ok (.getfield 78, 3) := by decide +kernel
theorem dX7_changedDays_19 : decode cX7_changedDays 19 = .ok (.invokestatic 67, 3) := by decide +kernel
theorem dX7_changedDays_22 : decode cX7_changedDays 22 = .ok (.ifCond .eq 16, 3) := by decide +kernel
theorem dX7_changedDays_25 : decode cX7_changedDays 25 = .ok (.iload 4, 2) := by decide +kernel
theorem dX7_changedDays_27 : decode cX7_changedDays 27 = .ok (.iconst 0, 1) := by decide +kernel
theorem dX7_changedDays_28 : decode cX7_changedDays 28 = .ok (.aload_n 0, 1) := by decide +kernel
theorem dX7_changedDays_29 : decode cX7_changedDays 29 = .ok (.getfield 78, 3) := by decide +kernel
theorem dX7_changedDays_32 : decode cX7_changedDays 32 = .ok (.invokestatic 67, 3) := by decide +kernel
theorem dX7_changedDays_35 : decode cX7_changedDays 35 = .ok (.ifCond .ne 7, 3) := by decide +kernel
theorem dX7_changedDays_38 : decode cX7_changedDays 38 = .ok (.iconst 2, 1) := by decide +kernel
theorem dX7_changedDays_39 : decode cX7_changedDays 39 = .ok (.goto 25, 3) := by decide +kernel
theorem dX7_changedDays_42 : decode cX7_changedDays 42 = .ok (.iload_n 3, 1) := by decide +kernel
theorem dX7_changedDays_43 : decode cX7_changedDays 43 = .ok (.aload_n 0, 1) := by decide +kernel
theorem dX7_changedDays_44 : decode cX7_changedDays 44 = .ok (.getfield 121, 3) := by decide +kernel
theorem dX7_changedDays_47 : decode cX7_changedDays 47 = .ok (.if_icmp .lt 12, 3) := by decide +kernel
theorem dX7_changedDays_50 : decode cX7_changedDays 50 = .ok (.iload 4, 2) := by decide +kernel
theorem dX7_changedDays_52 : decode cX7_changedDays 52 = .ok (.aload_n 0, 1) := by decide +kernel
theorem dX7_changedDays_53 : decode cX7_changedDays 53 = .ok (.getfield 121, 3) := by decide +kernel
theorem dX7_changedDays_56 : decode cX7_changedDays 56 = .ok (.if_icmp .ge 7, 3) := by decide +kernel
theorem dX7_changedDays_59 : decode cX7_changedDays 59 = .ok (.iconst 3, 1) := by decide +kernel
theorem dX7_changedDays_60 : decode cX7_changedDays 60 = .ok (.goto 4, 3) := by decide +kernel
theorem dX7_changedDays_63 : decode cX7_changedDays 63 = .ok (.iconst 0, 1) := by decide +kernel
theorem dX7_changedDays_64 : decode cX7_changedDays 64 = .ok (.istore 5, 2) := by decide +kernel
theorem dX7_changedDays_66 : decode cX7_changedDays 66 = .ok (.aload_n 0, 1) := by decide +kernel
theorem dX7_changedDays_67 : decode cX7_changedDays 67 = .ok (.iload 5, 2) := by decide +kernel
theorem dX7_changedDays_69 : decode cX7_changedDays 69 = .ok (.invokevirtual 71, 3) := by decide +kernel
theorem dX7_changedDays_72 : decode cX7_changedDays 72 = .ok (.ifCond .ne 5, 3) := by decide +kernel
theorem dX7_changedDays_75 : decode cX7_changedDays 75 = .ok (.iconst 0, 1) := by decide +kernel
theorem dX7_changedDays_76 : decode cX7_changedDays 76 = .ok (.ireturn, 1) := by decide +kernel
theorem dX7_changedDays_77 : decode cX7_changedDays 77 = .ok (.aload_n 0, 1) := by decide +kernel
theorem dX7_changedDays_78 : decode cX7_changedDays 78 = .ok (.aload_n 0, 1) := by decide +kernel
theorem dX7_changedDays_79 : decode cX7_changedDays 79 = .ok (.getfield 39, 3) := by decide +kernel
theorem dX7_changedDays_82 : decode cX7_changedDays 82 = .ok (.iload_n 1, 1) := by decide +kernel
theorem dX7_changedDays_83 : decode cX7_changedDays 83 = .ok (.iload_n 2, 1) := by decide +kernel
theorem dX7_changedDays_84 : decode cX7_changedDays 84 = .ok (.invokestatic 103, 3) := by decide +kernel
theorem dX7_changedDays_87 : decode cX7_changedDays 87 = .ok (.iload_n 3, 1) := by decide +kernel
theorem dX7_changedDays_88 : decode cX7_changedDays 88 = .ok (.invokevirtual 111, 3) := by decide +kernel
theorem dX7_changedDays_91 : decode cX7_changedDays 91 = .ok (.aload_n 0, 1) := by decide +kernel
theorem dX7_changedDays_92 : decode cX7_changedDays 92 = .ok (.aload_n 0, 1) := by decide +kernel
theorem dX7_changedDays_93 : decode cX7_changedDays 93 = .ok (.getfield 42, 3) := by decide +kernel
theorem dX7_changedDays_96 : decode cX7_changedDays 96 = .ok (.iload_n 1, 1) := by decide +kernel
theorem dX7_changedDays_97 : decode cX7_changedDays 97 = .ok (.iload_n 2, 1) := by decide +kernel
theorem dX7_changedDays_98 : decode cX7_changedDays 98 = .ok (.invokestatic 103, 3) := by decide +kernel
theorem dX7_changedDays_101 : decode cX7_changedDays 101 = .ok (.iload 4, 2) := by decide +kernel
theorem dX7_changedDays_103 : decode cX7_changedDays 103 = .ok (.invokevirtual 111, 3) := by decide +kernel
theorem dX7_changedDays_106 : decode cX7_changedDays 106 = .ok (.iconst 0, 1) := by decide +kernel
theorem dX7_changedDays_107 : decode cX7_changedDays 107 = .ok (.istore 6, 2) := by decide +kernel
theorem dX7_changedDays_109 : decode cX7_changedDays 109 = .ok (.iconst 0, 1) := by decide +kernel
theorem dX7_changedDays_110 : decode cX7_changedDays 110 = .ok (.istore 7, 2) := by decide +kernel
theorem dX7_changedDays_112 : decode cX7_changedDays 112 = .ok (.iload 7, 2) := by decide +kernel
theorem dX7_changedDays_114 : decode cX7_changedDays 114 = .ok (.bipush 100, 2) := by decide +kernel
theorem dX7_changedDays_116 : decode cX7_changedDays 116 = .ok (.if_icmp .ge 94, 3) := by decide +kernel
theorem dX7_changedDays_119 : decode cX7_changedDays 119 = .ok (.aload_n 0, 1) := by decide +kernel
theorem dX7_changedDays_120 : decode cX7_changedDays 120 = .ok (.getfield 39, 3) := by decide +kernel
theorem dX7_changedDays_123 : decode cX7_changedDays 123 = .ok (.iload 7, 2) := by decide +kernel
theorem dX7_changedDays_125 : decode cX7_changedDays 125 = .ok (.iaload, 1) := by decide +kernel
theorem dX7_changedDays_126 : decode cX7_changedDays 126 = .ok (.iconst (-1), 1) := by decide +kernel
theorem dX7_changedDays_127 : decode cX7_changedDays 127 = .ok (.if_icmp .eq 7, 3) := by decide +kernel
theorem dX7_changedDays_130 : decode cX7_changedDays 130 = .ok (.iconst 1, 1) := by decide +kernel
theorem dX7_changedDays_131 : decode cX7_changedDays 131 = .ok (.goto 4, 3) := by decide +kernel
theorem dX7_changedDays_134 : decode cX7_changedDays 134 = .ok (.iconst 0, 1) := by decide +kernel
theorem dX7_changedDays_135 : decode cX7_changedDays 135 = .ok (.istore 8, 2) := by decide +kernel
theorem dX7_changedDays_137 : decode cX7_changedDays 137 = .ok (.aload_n 0, 1) := by decide +kernel
theorem dX7_changedDays_138 : decode cX7_changedDays 138 = .ok (.getfield 42, 3) := by decide +kernel
theorem dX7_changedDays_141 : decode cX7_changedDays 141 = .ok (.iload 7, 2) := by decide +kernel
theorem dX7_changedDays_143 : decode cX7_changedDays 143 = .ok (.iaload, 1) := by decide +kernel
theorem dX7_changedDays_144 : decode cX7_changedDays 144 = .ok (.iconst (-1), 1) := by decide +kernel
theorem dX7_changedDays_145 : decode cX7_changedDays 145 = .ok (.if_icmp .eq 7, 3) := by decide +kernel
theorem dX7_changedDays_148 : decode cX7_changedDays 148 = .ok (.iconst 1, 1) := by decide +kernel
theorem dX7_changedDays_149 : decode cX7_changedDays 149 = .ok (.goto 4, 3) := by decide +kernel
theorem dX7_changedDays_152 : decode cX7_changedDays 152 = .ok (.iconst 0, 1) := by decide +kernel
theorem dX7_changedDays_153 : decode cX7_changedDays 153 = .ok (.istore 9, 2) := by decide +kernel
theorem dX7_changedDays_155 : decode cX7_changedDays 155 = .ok (.iload 6, 2) := by decide +kernel
theorem dX7_changedDays_157 : decode cX7_changedDays 157 = .ok (.iload 8, 2) := by decide +kernel
theorem dX7_changedDays_159 : decode cX7_changedDays 159 = .ok (.iload 9, 2) := by decide +kernel
theorem dX7_changedDays_161 : decode cX7_changedDays 161 = .ok (.if_icmp .ne 35, 3) := by decide +kernel
theorem dX7_changedDays_164 : decode cX7_changedDays 164 = .ok (.iload 8, 2) := by decide +kernel
theorem dX7_changedDays_166 : decode cX7_changedDays 166 = .ok (.ifCond .eq 34, 3) := by decide +kernel
theorem dX7_changedDays_169 : decode cX7_changedDays 169 = .ok (.aload_n 0, 1) := by decide +kernel
theorem dX7_changedDays_170 : decode cX7_changedDays 170 = .ok (.getfield 20, 3) := by decide +kernel
theorem dX7_changedDays_173 : decode cX7_changedDays 173 = .ok (.aload_n 0, 1) := by decide +kernel
theorem dX7_changedDays_174 : decode cX7_changedDays 174 = .ok (.getfield 39, 3) := by decide +kernel
theorem dX7_changedDays_177 : decode cX7_changedDays 177 = .ok (.iload 7, 2) := by decide +kernel
theorem dX7_changedDays_179 : decode cX7_changedDays 179 = .ok (.iaload, 1) := by decide +kernel
theorem dX7_changedDays_180 : decode cX7_changedDays 180 = .ok (.iaload, 1) := by decide +kernel
theorem dX7_changedDays_181 : decode cX7_changedDays 181 = .ok (.aload_n 0, 1) := by decide +kernel
theorem dX7_changedDays_182 : decode cX7_changedDays 182 = .ok (.getfield 20, 3) := by decide +kernel
theorem dX7_changedDays_185 : decode cX7_changedDays 185 = .ok (.aload_n 0, 1) := by decide +kernel
theorem dX7_changedDays_186 : decode cX7_changedDays 186 = .ok (.getfield 42, 3) := by decide +kernel
theorem dX7_changedDays_189 : decode cX7_changedDays 189 = .ok (.iload 7, 2) := by decide +kernel
theorem dX7_changedDays_191 : decode cX7_changedDays 191 = .ok (.iaload, 1) := by decide +kernel
theorem dX7_changedDays_192 : decode cX7_changedDays 192 = .ok (.iaload, 1) := by decide +kernel
theorem dX7_changedDays_193 : decode cX7_changedDays 193 = .ok (.if_icmp .eq 7, 3) := by decide +kernel
theorem dX7_changedDays_196 : decode cX7_changedDays 196 = .ok (.iconst 1, 1) := by decide +kernel
theorem dX7_changedDays_197 : decode cX7_changedDays 197 = .ok (.goto 4, 3) := by decide +kernel
theorem dX7_changedDays_200 : decode cX7_changedDays 200 = .ok (.iconst 0, 1) := by decide +kernel
theorem dX7_changedDays_201 : decode cX7_changedDays 201 = .ok (.iadd, 1) := by decide +kernel
theorem dX7_changedDays_202 : decode cX7_changedDays 202 = .ok (.istore 6, 2) := by decide +kernel
theorem dX7_changedDays_204 : decode cX7_changedDays 204 = .ok (.iinc 7 1, 3) := by decide +kernel
theorem dX7_changedDays_207 : decode cX7_changedDays 207 = .ok (.goto (-95), 3) := by decide +kernel
theorem dX7_changedDays_210 : decode cX7_changedDays 210 = .ok (.iload 6, 2) := by decide +kernel
theorem dX7_changedDays_212 : decode cX7_changedDays 212 = .ok (.ireturn, 1) := by decide +kernel
theorem dX7_allFault_0 : decode cX7_allFault 0 = .ok (.iload_n 1, 1) := by decide +kernel
theorem dX7_allFault_1 : decode cX7_allFault 1 = .ok (.iconst 0, 1) := by decide +kernel
theorem dX7_allFault_2 : decode cX7_allFault 2 = .ok (.iconst 2, 1) := by decide +kernel
theorem dX7_allFault_3 : decode cX7_allFault 3 = .ok (.invokestatic 67, 3) := by decide +kernel
theorem dX7_allFault_6 : decode cX7_allFault 6 = .ok (.ifCond .ne 7, 3) := by decide +kernel
theorem dX7_allFault_9 : decode cX7_allFault 9 = .ok (.iconst 1, 1) := by decide +kernel
theorem dX7_allFault_10 : decode cX7_allFault 10 = .ok (.goto 42, 3) := by decide +kernel
theorem dX7_allFault_13 : decode cX7_allFault 13 = .ok (.iload_n 2, 1) := by decide +kernel
theorem dX7_allFault_14 : decode cX7_allFault 14 = .ok (.iconst 0, 1) := by decide +kernel
theorem dX7_allFault_15 : decode cX7_allFault 15 = .ok (.bipush 99, 2) := by decide +kernel
theorem dX7_allFault_17 : decode cX7_allFault 17 = .ok (.invokestatic 67, 3) := by decide +kernel
theorem dX7_allFault_20 : decode cX7_allFault 20 = .ok (.ifCond .eq 15, 3) := by decide +kernel
theorem dX7_allFault_23 : decode cX7_allFault 23 = .ok (.iload_n 3, 1) := by decide +kernel
theorem dX7_allFault_24 : decode cX7_allFault 24 = .ok (.iconst 0, 1) := by decide +kernel
theorem dX7_allFault_25 : decode cX7_allFault 25 = .ok (.aload_n 0, 1) := by decide +kernel
theorem dX7_allFault_26 : decode cX7_allFault 26 = .ok (.getfield 78, 3) := by decide +kernel
theorem dX7_allFault_29 : decode cX7_allFault 29 = .ok (.invokestatic 67, 3) := by decide +kernel
theorem dX7_allFault_32 : decode cX7_allFault 32 = .ok (.ifCond .ne 7, 3) := by decide +kernel
theorem dX7_allFault_35 : decode cX7_allFault 35 = .ok (.iconst 2, 1) := by decide +kernel
theorem dX7_allFault_36 : decode cX7_allFault 36 = .ok (.goto 16, 3) := by decide +kernel
theorem dX7_allFault_39 : decode cX7_allFault 39 = .ok (.iload_n 3, 1) := by decide +kernel
theorem dX7_allFault_40 : decode cX7_allFault 40 = .ok (.aload_n 0, 1) := by decide +kernel
theorem dX7_allFault_41 : decode cX7_allFault 41 = .ok (.getfield 121, 3) := by decide +kernel
theorem dX7_allFault_44 : decode cX7_allFault 44 = .ok (.if_icmp .ge 7, 3) := by decide +kernel
theorem dX7_allFault_47 : decode cX7_allFault 47 = .ok (.iconst 3, 1) := by decide +kernel
theorem dX7_allFault_48 : decode cX7_allFault 48 = .ok (.goto 4, 3) := by decide +kernel
theorem dX7_allFault_51 : decode cX7_allFault 51 = .ok (.iconst 0, 1) := by decide +kernel
theorem dX7_allFault_52 : decode cX7_allFault 52 = .ok (.ireturn, 1) := by decide +kernel
theorem dX7_sumOf_0 : decode cX7_sumOf 0 = .ok (.lconst 0, 1) := by decide +kernel
theorem dX7_sumOf_1 : decode cX7_sumOf 1 = .ok (.lstore 4, 2) := by decide +kernel
theorem dX7_sumOf_3 : decode cX7_sumOf 3 = .ok (.aload_n 0, 1) := by decide +kernel
theorem dX7_sumOf_4 : decode cX7_sumOf 4 = .ok (.iconst 0, 1) := by decide +kernel
theorem dX7_sumOf_5 : decode cX7_sumOf 5 = .ok (.putfield 154, 3) := by decide +kernel
theorem dX7_sumOf_8 : decode cX7_sumOf 8 = .ok (.aload_n 0, 1) := by decide +kernel
theorem dX7_sumOf_9 : decode cX7_sumOf 9 = .ok (.iconst 0, 1) := by decide +kernel
theorem dX7_sumOf_10 : decode cX7_sumOf 10 = .ok (.putfield 157, 3) := by decide +kernel
theorem dX7_sumOf_13 : decode cX7_sumOf 13 = .ok (.iconst 0, 1) := by decide +kernel
theorem dX7_sumOf_14 : decode cX7_sumOf 14 = .ok (.istore 6, 2) := by decide +kernel
theorem dX7_sumOf_16 : decode cX7_sumOf 16 = .ok (.iload 6, 2) := by decide +kernel
theorem dX7_sumOf_18 : decode cX7_sumOf 18 = .ok (.aload_n 0, 1) := by decide +kernel
theorem dX7_sumOf_19 : decode cX7_sumOf 19 = .ok (.getfield 64, 3) := by decide +kernel
theorem dX7_sumOf_22 : decode cX7_sumOf 22 = .ok (.if_icmp .ge 100, 3) := by decide +kernel
theorem dX7_sumOf_25 : decode cX7_sumOf 25 = .ok (.aload_n 0, 1) := by decide +kernel
theorem dX7_sumOf_26 : decode cX7_sumOf 26 = .ok (.iload 6, 2) := by decide +kernel
theorem dX7_sumOf_28 : decode cX7_sumOf 28 = .ok (.iload_n 1, 1) := by decide +kernel
theorem dX7_sumOf_29 : decode cX7_sumOf 29 = .ok (.invokestatic 103, 3) := by decide +kernel
theorem dX7_sumOf_32 : decode cX7_sumOf 32 = .ok (.iload_n 2, 1) := by decide +kernel
theorem dX7_sumOf_33 : decode cX7_sumOf 33 = .ok (.iload_n 3, 1) := by decide +kernel
theorem dX7_sumOf_34 : decode cX7_sumOf 34 = .ok (.invokevirtual 127, 3) := by decide +kernel
theorem dX7_sumOf_37 : decode cX7_sumOf 37 = .ok (.istore 7, 2) := by decide +kernel
theorem dX7_sumOf_39 : decode cX7_sumOf 39 = .ok (.lload 4, 2) := by decide +kernel
theorem dX7_sumOf_41 : decode cX7_sumOf 41 = .ok (.iload 7, 2) := by decide +kernel
theorem dX7_sumOf_43 : decode cX7_sumOf 43 = .ok (.iconst (-1), 1) := by decide +kernel
theorem dX7_sumOf_44 : decode cX7_sumOf 44 = .ok (.if_icmp .ne 7, 3) := by decide +kernel
theorem dX7_sumOf_47 : decode cX7_sumOf 47 = .ok (.lconst 0, 1) := by decide +kernel
theorem dX7_sumOf_48 : decode cX7_sumOf 48 = .ok (.goto 11, 3) := by decide +kernel
theorem dX7_sumOf_51 : decode cX7_sumOf 51 = .ok (.aload_n 0, 1) := by decide +kernel
theorem dX7_sumOf_52 : decode cX7_sumOf 52 = .ok (.getfield 20, 3) := by decide +kernel
theorem dX7_sumOf_55 : decode cX7_sumOf 55 = .ok (.iload 7, 2) := by decide +kernel
theorem dX7_sumOf_57 : decode cX7_sumOf 57 = .ok (.iaload, 1) := by decide +kernel
theorem dX7_sumOf_58 : decode cX7_sumOf 58 = .ok (.i2l, 1) := by decide +kernel
theorem dX7_sumOf_59 : decode cX7_sumOf 59 = .ok (.ladd, 1) := by decide +kernel
theorem dX7_sumOf_60 : decode cX7_sumOf 60 = .ok (.lstore 4, 2) := by decide +kernel
theorem dX7_sumOf_62 : decode cX7_sumOf 62 = .ok (.aload_n 0, 1) := by decide +kernel
theorem dX7_sumOf_63 : decode cX7_sumOf 63 = .ok (.dup, 1) := by decide +kernel
theorem dX7_sumOf_64 : decode cX7_sumOf 64 = .ok (.getfield 154, 3) := by decide +kernel
theorem dX7_sumOf_67 : decode cX7_sumOf 67 = .ok (.iload 7, 2) := by decide +kernel
theorem dX7_sumOf_69 : decode cX7_sumOf 69 = .ok (.iconst (-1), 1) := by decide +kernel
theorem dX7_sumOf_70 : decode cX7_sumOf 70 = .ok (.if_icmp .ne 7, 3) := by decide +kernel
theorem dX7_sumOf_73 : decode cX7_sumOf 73 = .ok (.iconst 0, 1) := by decide +kernel
theorem dX7_sumOf_74 : decode cX7_sumOf 74 = .ok (.goto 4, 3) := by decide +kernel
theorem dX7_sumOf_77 : decode cX7_sumOf 77 = .ok (.iconst 1, 1) := by decide +kernel
theorem dX7_sumOf_78 : decode cX7_sumOf 78 = .ok (.iadd, 1) := by decide +kernel
theorem dX7_sumOf_79 : decode cX7_sumOf 79 = .ok (.putfield 154, 3) := by decide +kernel
theorem dX7_sumOf_82 : decode cX7_sumOf 82 = .ok (.aload_n 0, 1) := by decide +kernel
theorem dX7_sumOf_83 : decode cX7_sumOf 83 = .ok (.aload_n 0, 1) := by decide +kernel
theorem dX7_sumOf_84 : decode cX7_sumOf 84 = .ok (.getfield 157, 3) := by decide +kernel
theorem dX7_sumOf_87 : decode cX7_sumOf 87 = .ok (.ifCond .ne 21, 3) := by decide +kernel
theorem dX7_sumOf_90 : decode cX7_sumOf 90 = .ok (.lload 4, 2) := by decide +kernel
theorem dX7_sumOf_92 : decode cX7_sumOf 92 = .ok (.ldc2_w 161, 3) := by decide +kernel
theorem dX7_sumOf_95 : decode cX7_sumOf 95 = .ok (.lcmp, 1) := by decide +kernel
theorem dX7_sumOf_96 : decode cX7_sumOf 96 = .ok (.ifCond .gt 12, 3) := by decide +kernel
theorem dX7_sumOf_99 : decode cX7_sumOf 99 = .ok (.lload 4, 2) := by decide +kernel
theorem dX7_sumOf_101 : decode cX7_sumOf 101 = .ok (.ldc2_w 163, 3) := by decide +kernel
theorem dX7_sumOf_104 : decode cX7_sumOf 104 = .ok (.lcmp, 1) := by decide +kernel
theorem dX7_sumOf_105 : decode cX7_sumOf 105 = .ok (.ifCond .ge 7, 3) := by decide +kernel
theorem dX7_sumOf_108 : decode cX7_sumOf 108 = .ok (.iconst 1, 1) := by decide +kernel
theorem dX7_sumOf_109 : decode cX7_sumOf 109 = .ok (.goto 4, 3) := by decide +kernel
theorem dX7_sumOf_112 : decode cX7_sumOf 112 = .ok (.iconst 0, 1) := by decide +kernel
theorem dX7_sumOf_113 : decode cX7_sumOf 113 = .ok (.putfield 157, 3) := by decide +kernel
theorem dX7_sumOf_116 : decode cX7_sumOf 116 = .ok (.iinc 6 1, 3) := by decide +kernel
theorem dX7_sumOf_119 : decode cX7_sumOf 119 = .ok (.goto (-103), 3) := by decide +kernel
theorem dX7_sumOf_122 : decode cX7_sumOf 122 = .ok (.lload 4, 2) := by decide +kernel
theorem dX7_sumOf_124 : decode cX7_sumOf 124 = .ok (.lreturn, 1) := by decide +kernel
theorem dX7_total_0 : decode cX7_total 0 = .ok (.aload_n 0, 1) := by decide +kernel
theorem dX7_total_1 : decode cX7_total 1 = .ok (.iload_n 1, 1) := by decide +kernel
theorem dX7_total_2 : decode cX7_total 2 = .ok (.iload_n 2, 1) := by decide +kernel
theorem dX7_total_3 : decode cX7_total 3 = .ok (.iload_n 3, 1) := by decide +kernel
theorem dX7_total_4 : decode cX7_total 4 = .ok (.invokevirtual 165, 3) := by decide +kernel
theorem dX7_total_7 : decode cX7_total 7 = .ok (.istore 4, 2) := by decide +kernel
theorem dX7_total_9 : decode cX7_total 9 = .ok (.iload 4, 2) := by decide +kernel
theorem dX7_total_11 : decode cX7_total 11 = .ok (.ifCond .ne 13, 3) := by decide +kernel
theorem dX7_total_14 : decode cX7_total 14 = .ok (.aload_n 0, 1) := by decide +kernel
theorem dX7_total_15 : decode cX7_total 15 = .ok (.iload_n 1, 1) := by decide +kernel
theorem dX7_total_16 : decode cX7_total 16 = .ok (.iload_n 2, 1) := by decide +kernel
theorem dX7_total_17 : decode cX7_total 17 = .ok (.iload_n 3, 1) := by decide +kernel
theorem dX7_total_18 : decode cX7_total 18 = .ok (.invokevirtual 168, 3) := by decide +kernel
theorem dX7_total_21 : decode cX7_total 21 = .ok (.goto 4, 3) := by decide +kernel
theorem dX7_total_24 : decode cX7_total 24 = .ok (.lconst 0, 1) := by decide +kernel
theorem dX7_total_25 : decode cX7_total 25 = .ok (.lstore 5, 2) := by decide +kernel
theorem dX7_total_27 : decode cX7_total 27 = .ok (.aload_n 0, 1) := by decide +kernel
theorem dX7_total_28 : decode cX7_total 28 = .ok (.iload 4, 2) := by decide +kernel
theorem dX7_total_30 : decode cX7_total 30 = .ok (.ifCond .ne 14, 3) := by decide +kernel
theorem dX7_total_33 : decode cX7_total 33 = .ok (.aload_n 0, 1) := by decide +kernel
theorem dX7_total_34 : decode cX7_total 34 = .ok (.getfield 157, 3) := by decide +kernel
theorem dX7_total_37 : decode cX7_total 37 = .ok (.ifCond .eq 7, 3) := by decide +kernel
theorem dX7_total_40 : decode cX7_total 40 = .ok (.iconst 4, 1) := by decide +kernel
theorem dX7_total_41 : decode cX7_total 41 = .ok (.goto 5, 3) := by decide +kernel
theorem dX7_total_44 : decode cX7_total 44 = .ok (.iload 4, 2) := by decide +kernel
theorem dX7_total_46 : decode cX7_total 46 = .ok (.invokevirtual 71, 3) := by decide +kernel
theorem dX7_total_49 : decode cX7_total 49 = .ok (.ifCond .eq 9, 3) := by decide +kernel
theorem dX7_total_52 : decode cX7_total 52 = .ok (.lload 5, 2) := by decide +kernel
theorem dX7_total_54 : decode cX7_total 54 = .ok (.l2i, 1) := by decide +kernel
theorem dX7_total_55 : decode cX7_total 55 = .ok (.goto 4, 3) := by decide +kernel
theorem dX7_total_58 : decode cX7_total 58 = .ok (.iconst 0, 1) := by decide +kernel
theorem dX7_total_59 : decode cX7_total 59 = .ok (.ireturn, 1) := by decide +kernel
theorem dX7_meanValue_0 : decode cX7_meanValue 0 = .ok (.aload_n 0, 1) := by decide +kernel
theorem dX7_meanValue_1 : decode cX7_meanValue 1 = .ok (.iload_n 1, 1) := by decide +kernel
theorem dX7_meanValue_2 : decode cX7_meanValue 2 = .ok (.iload_n 2, 1) := by decide +kernel
theorem dX7_meanValue_3 : decode cX7_meanValue 3 = .ok (.iload_n 3, 1) := by decide +kernel
theorem dX7_meanValue_4 : decode cX7_meanValue 4 = .ok (.invokevirtual 165, 3) := by decide +kernel
theorem dX7_meanValue_7 : decode cX7_meanValue 7 = .ok (.istore 4, 2) := by decide +kernel
theorem dX7_meanValue_9 : decode cX7_meanValue 9 = .ok (.iload 4, 2) := by decide +kernel
theorem dX7_meanValue_11 : decode cX7_meanValue 11 = .ok (.ifCond .ne 13, 3) := by decide +kernel
theorem dX7_meanValue_14 : decode cX7_meanValue 14 = .ok (.aload_n 0, 1) := by decide +kernel
theorem dX7_meanValue_15 : decode cX7_meanValue 15 = .ok (.iload_n 1, 1) := by decide +kernel
theorem dX7_meanValue_16 : decode cX7_meanValue 16 = .ok (.iload_n 2, 1) := by decide +kernel
theorem dX7_meanValue_17 : decode cX7_meanValue 17 = .ok (.iload_n 3, 1) := by decide +kernel
theorem dX7_meanValue_18 : decode cX7_meanValue 18 = .ok (.invokevirtual 168, 3) := by decide +kernel
theorem dX7_meanValue_21 : decode cX7_meanValue 21 = .ok (.goto 4, 3) := by decide +kernel
theorem dX7_meanValue_24 : decode cX7_meanValue 24 = .ok (.lconst 0, 1) := by decide +kernel
theorem dX7_meanValue_25 : decode cX7_meanValue 25 = .ok (.lstore 5, 2) := by decide +kernel
theorem dX7_meanValue_27 : decode cX7_meanValue 27 = .ok (.aload_n 0, 1) := by decide +kernel
theorem dX7_meanValue_28 : decode cX7_meanValue 28 = .ok (.iload 4, 2) := by decide +kernel
theorem dX7_meanValue_30 : decode cX7_meanValue 30 = .ok (.ifCond .ne 14, 3) := by decide +kernel
theorem dX7_meanValue_33 : decode cX7_meanValue 33 = .ok (.aload_n 0, 1) := by decide +kernel
theorem dX7_meanValue_34 : decode cX7_meanValue 34 = .ok (.getfield 154, 3) := by decide +kernel
theorem dX7_meanValue_37 : decode cX7_meanValue 37 = .ok (.ifCond .ne 7, 3) := by decide +kernel
theorem dX7_meanValue_40 : decode cX7_meanValue 40 = .ok (.iconst 4, 1) := by decide +kernel
theorem dX7_meanValue_41 : decode cX7_meanValue 41 = .ok (.goto 5, 3) := by decide +kernel
theorem dX7_meanValue_44 : decode cX7_meanValue 44 = .ok (.iload 4, 2) := by decide +kernel
theorem dX7_meanValue_46 : decode cX7_meanValue 46 = .ok (.invokevirtual 71, 3) := by decide +kernel
theorem dX7_meanValue_49 : decode cX7_meanValue 49 = .ok (.ifCond .eq 15, 3) := by decide +kernel
theorem dX7_meanValue_52 : decode cX7_meanValue 52 = .ok (.lload 5, 2) := by decide +kernel
theorem dX7_meanValue_54 : decode cX7_meanValue 54 = .ok (.l2d, 1) := by decide +kernel
theorem dX7_meanValue_55 : decode cX7_meanValue 55 = .ok (.aload_n 0, 1) := by decide +kernel
theorem dX7_meanValue_56 : decode cX7_meanValue 56 = .ok (.getfield 154, 3) := by decide +kernel
theorem dX7_meanValue_59 : decode cX7_meanValue 59 = .ok (.i2d, 1) := by decide +kernel
theorem dX7_meanValue_60 : decode cX7_meanValue 60 = .ok (.ddiv, 1) := by decide +kernel
theorem dX7_meanValue_61 : decode cX7_meanValue 61 = .ok (.goto 4, 3) := by decide +kernel
theorem dX7_meanValue_64 : decode cX7_meanValue 64 = .ok (.dconst 0, 1) := by decide +kernel
theorem dX7_meanValue_65 : decode cX7_meanValue 65 = .ok (.dreturn, 1) := by decide +kernel
theorem dX7_looksAtBoth_0 : decode cX7_looksAtBoth 0 = .ok (.aload_n 0, 1) := by decide +kernel
theorem dX7_looksAtBoth_1 : decode cX7_looksAtBoth 1 = .ok (.iload_n 1, 1) := by decide +kernel
theorem dX7_looksAtBoth_2 : decode cX7_looksAtBoth 2 = .ok (.iload_n 2, 1) := by decide +kernel
theorem dX7_looksAtBoth_3 : decode cX7_looksAtBoth 3 = .ok (.iload 5, 2) := by decide +kernel
theorem dX7_looksAtBoth_5 : decode cX7_looksAtBoth 5 = .ok (.invokevirtual 133, 3) := by decide +kernel
theorem dX7_looksAtBoth_8 : decode cX7_looksAtBoth 8 = .ok (.istore 6, 2) := by decide +kernel
theorem dX7_looksAtBoth_10 : decode cX7_looksAtBoth 10 = .ok (.aload_n 0, 1) := by decide +kernel
theorem dX7_looksAtBoth_11 : decode cX7_looksAtBoth 11 = .ok (.iload_n 3, 1) := by decide +kernel
theorem dX7_looksAtBoth_12 : decode cX7_looksAtBoth 12 = .ok (.iload 4, 2) := by decide +kernel
theorem dX7_looksAtBoth_14 : decode cX7_looksAtBoth 14 = .ok (.invokevirtual 92, 3) := by decide +kernel
theorem dX7_looksAtBoth_17 : decode cX7_looksAtBoth 17 = .ok (.ifCond .eq 8, 3) := by decide +kernel
theorem dX7_looksAtBoth_20 : decode cX7_looksAtBoth 20 = .ok (.iload 6, 2) := by decide +kernel
theorem dX7_looksAtBoth_22 : decode cX7_looksAtBoth 22 = .ok (.goto 4, 3) := by decide +kernel
theorem dX7_looksAtBoth_25 : decode cX7_looksAtBoth 25 = .ok (.iconst 1, 1) := by decide +kernel
theorem dX7_looksAtBoth_26 : decode cX7_looksAtBoth 26 = .ok (.istore 6, 2) := by decide +kernel
theorem dX7_looksAtBoth_28 : decode cX7_looksAtBoth 28 = .ok (.aload_n 0, 1) := by decide +kernel
theorem dX7_looksAtBoth_29 : decode cX7_looksAtBoth 29 = .ok (.iload 6, 2) := by decide +kernel
theorem dX7_looksAtBoth_31 : decode cX7_looksAtBoth 31 = .ok (.invokevirtual 71, 3) := by decide +kernel
theorem dX7_looksAtBoth_34 : decode cX7_looksAtBoth 34 = .ok (.ifCond .ne 5, 3) := by decide +kernel
theorem dX7_looksAtBoth_37 : decode cX7_looksAtBoth 37 = .ok (.iconst 0, 1) := by decide +kernel
theorem dX7_looksAtBoth_38 : decode cX7_looksAtBoth 38 = .ok (.ireturn, 1) := by decide +kernel
theorem dX7_looksAtBoth_39 : decode cX7_looksAtBoth 39 = .ok (.aload_n 0, 1) := by decide +kernel
theorem dX7_looksAtBoth_40 : decode cX7_looksAtBoth 40 = .ok (.aload_n 0, 1) := by decide +kernel
theorem dX7_looksAtBoth_41 : decode cX7_looksAtBoth 41 = .ok (.getfield 39, 3) := by decide +kernel
theorem dX7_looksAtBoth_44 : decode cX7_looksAtBoth 44 = .ok (.iload_n 1, 1) := by decide +kernel
theorem dX7_looksAtBoth_45 : decode cX7_looksAtBoth 45 = .ok (.iload_n 2, 1) := by decide +kernel
theorem dX7_looksAtBoth_46 : decode cX7_looksAtBoth 46 = .ok (.invokestatic 103, 3) := by decide +kernel
theorem dX7_looksAtBoth_49 : decode cX7_looksAtBoth 49 = .ok (.iload 5, 2) := by decide +kernel
theorem dX7_looksAtBoth_51 : decode cX7_looksAtBoth 51 = .ok (.invokevirtual 111, 3) := by decide +kernel
theorem dX7_looksAtBoth_54 : decode cX7_looksAtBoth 54 = .ok (.aload_n 0, 1) := by decide +kernel
theorem dX7_looksAtBoth_55 : decode cX7_looksAtBoth 55 = .ok (.aload_n 0, 1) := by decide +kernel
theorem dX7_looksAtBoth_56 : decode cX7_looksAtBoth 56 = .ok (.getfield 42, 3) := by decide +kernel
theorem dX7_looksAtBoth_59 : decode cX7_looksAtBoth 59 = .ok (.iload_n 3, 1) := by decide +kernel
theorem dX7_looksAtBoth_60 : decode cX7_looksAtBoth 60 = .ok (.iload 4, 2) := by decide +kernel
theorem dX7_looksAtBoth_62 : decode cX7_looksAtBoth 62 = .ok (.invokestatic 103, 3) := by decide +kernel
theorem dX7_looksAtBoth_65 : decode cX7_looksAtBoth 65 = .ok (.iload 5, 2) := by decide +kernel
theorem dX7_looksAtBoth_67 : decode cX7_looksAtBoth 67 = .ok (.invokevirtual 111, 3) := by decide +kernel
theorem dX7_looksAtBoth_70 : decode cX7_looksAtBoth 70 = .ok (.aload_n 0, 1) := by decide +kernel
theorem dX7_looksAtBoth_71 : decode cX7_looksAtBoth 71 = .ok (.iconst 1, 1) := by decide +kernel
theorem dX7_looksAtBoth_72 : decode cX7_looksAtBoth 72 = .ok (.invokevirtual 143, 3) := by decide +kernel
theorem dX7_looksAtBoth_75 : decode cX7_looksAtBoth 75 = .ok (.iconst 1, 1) := by decide +kernel
theorem dX7_looksAtBoth_76 : decode cX7_looksAtBoth 76 = .ok (.ireturn, 1) := by decide +kernel
theorem dX7_joinCount_0 : decode cX7_joinCount 0 = .ok (.aload_n 0, 1) := by decide +kernel
theorem dX7_joinCount_1 : decode cX7_joinCount 1 = .ok (.iload_n 1, 1) := by decide +kernel
theorem dX7_joinCount_2 : decode cX7_joinCount 2 = .ok (.iload_n 2, 1) := by decide +kernel
theorem dX7_joinCount_3 : decode cX7_joinCount 3 = .ok (.iload_n 3, 1) := by decide +kernel
theorem dX7_joinCount_4 : decode cX7_joinCount 4 = .ok (.iload 4, 2) := by decide +kernel
theorem dX7_joinCount_6 : decode cX7_joinCount 6 = .ok (.iload 5, 2) := by decide +kernel
theorem dX7_joinCount_8 : decode cX7_joinCount 8 = .ok (.invokevirtual 172, 3) := by decide +kernel
theorem dX7_joinCount_11 : decode cX7_joinCount 11 = .ok (.ifCond .eq 10, 3) := by decide +kernel
theorem dX7_joinCount_14 : decode cX7_joinCount 14 = .ok (.aload_n 0, 1) := by decide +kernel
theorem dX7_joinCount_15 : decode cX7_joinCount 15 = .ok (.getfield 136, 3) := by decide +kernel
theorem dX7_joinCount_18 : decode cX7_joinCount 18 = .ok (.goto 4, 3) := by decide +kernel
theorem dX7_joinCount_21 : decode cX7_joinCount 21 = .ok (.iconst 0, 1) := by decide +kernel
theorem dX7_joinCount_22 : decode cX7_joinCount 22 = .ok (.ireturn, 1) := by decide +kernel
theorem dX7_joinFrom_0 : decode cX7_joinFrom 0 = .ok (.aload_n 0, 1) := by decide +kernel
theorem dX7_joinFrom_1 : decode cX7_joinFrom 1 = .ok (.iload_n 1, 1) := by decide +kernel
theorem dX7_joinFrom_2 : decode cX7_joinFrom 2 = .ok (.iload_n 2, 1) := by decide +kernel
theorem dX7_joinFrom_3 : decode cX7_joinFrom 3 = .ok (.iload_n 3, 1) := by decide +kernel
theorem dX7_joinFrom_4 : decode cX7_joinFrom 4 = .ok (.iload 4, 2) := by decide +kernel
theorem dX7_joinFrom_6 : decode cX7_joinFrom 6 = .ok (.iload 5, 2) := by decide +kernel
theorem dX7_joinFrom_8 : decode cX7_joinFrom 8 = .ok (.invokevirtual 172, 3) := by decide +kernel
theorem dX7_joinFrom_11 : decode cX7_joinFrom 11 = .ok (.ifCond .eq 34, 3) := by decide +kernel
theorem dX7_joinFrom_14 : decode cX7_joinFrom 14 = .ok (.aload_n 0, 1) := by decide +kernel
theorem dX7_joinFrom_15 : decode cX7_joinFrom 15 = .ok (.iload 6, 2) := by decide +kernel
theorem dX7_joinFrom_17 : decode cX7_joinFrom 17 = .ok (.iconst 0, 1) := by decide +kernel
theorem dX7_joinFrom_18 : decode cX7_joinFrom 18 = .ok (.aload_n 0, 1) := by decide +kernel
theorem dX7_joinFrom_19 : decode cX7_joinFrom 19 = .ok (.getfield 136, 3) := by decide +kernel
theorem dX7_joinFrom_22 : decode cX7_joinFrom 22 = .ok (.iconst 1, 1) := by decide +kernel
theorem dX7_joinFrom_23 : decode cX7_joinFrom 23 = .ok (.isub, 1) := by decide +kernel
theorem dX7_joinFrom_24 : decode cX7_joinFrom 24 = .ok (.invokestatic 67, 3) := by decide +kernel
theorem dX7_joinFrom_27 : decode cX7_joinFrom 27 = .ok (.ifCond .eq 7, 3) := by decide +kernel
theorem dX7_joinFrom_30 : decode cX7_joinFrom 30 = .ok (.iconst 0, 1) := by decide +kernel
theorem dX7_joinFrom_31 : decode cX7_joinFrom 31 = .ok (.goto 4, 3) := by decide +kernel
theorem dX7_joinFrom_34 : decode cX7_joinFrom 34 = .ok (.iconst 4, 1) := by decide +kernel
theorem dX7_joinFrom_35 : decode cX7_joinFrom 35 = .ok (.invokevirtual 71, 3) := by decide +kernel
theorem dX7_joinFrom_38 : decode cX7_joinFrom 38 = .ok (.ifCond .eq 7, 3) := by decide +kernel
theorem dX7_joinFrom_41 : decode cX7_joinFrom 41 = .ok (.iconst 1, 1) := by decide +kernel
theorem dX7_joinFrom_42 : decode cX7_joinFrom 42 = .ok (.goto 4, 3) := by decide +kernel
theorem dX7_joinFrom_45 : decode cX7_joinFrom 45 = .ok (.iconst 0, 1) := by decide +kernel
theorem dX7_joinFrom_46 : decode cX7_joinFrom 46 = .ok (.istore 7, 2) := by decide +kernel
theorem dX7_joinFrom_48 : decode cX7_joinFrom 48 = .ok (.iload 7, 2) := by decide +kernel
theorem dX7_joinFrom_50 : decode cX7_joinFrom 50 = .ok (.ifCond .eq 13, 3) := by decide +kernel
theorem dX7_joinFrom_53 : decode cX7_joinFrom 53 = .ok (.aload_n 0, 1) := by decide +kernel
theorem dX7_joinFrom_54 : decode cX7_joinFrom 54 = .ok (.getfield 45, 3) := by decide +kernel
theorem dX7_joinFrom_57 : decode cX7_joinFrom 57 = .ok (.iload 6, 2) := by decide +kernel
theorem dX7_joinFrom_59 : decode cX7_joinFrom 59 = .ok (.iaload, 1) := by decide +kernel
theorem dX7_joinFrom_60 : decode cX7_joinFrom 60 = .ok (.goto 4, 3) := by decide +kernel
theorem dX7_joinFrom_63 : decode cX7_joinFrom 63 = .ok (.iconst 0, 1) := by decide +kernel
theorem dX7_joinFrom_64 : decode cX7_joinFrom 64 = .ok (.ireturn, 1) := by decide +kernel
theorem dX7_joinTo_0 : decode cX7_joinTo 0 = .ok (.aload_n 0, 1) := by decide +kernel
theorem dX7_joinTo_1 : decode cX7_joinTo 1 = .ok (.iload_n 1, 1) := by decide +kernel
theorem dX7_joinTo_2 : decode cX7_joinTo 2 = .ok (.iload_n 2, 1) := by decide +kernel
theorem dX7_joinTo_3 : decode cX7_joinTo 3 = .ok (.iload_n 3, 1) := by decide +kernel
theorem dX7_joinTo_4 : decode cX7_joinTo 4 = .ok (.iload 4, 2) := by decide +kernel
theorem dX7_joinTo_6 : decode cX7_joinTo 6 = .ok (.iload 5, 2) := by decide +kernel
theorem dX7_joinTo_8 : decode cX7_joinTo 8 = .ok (.invokevirtual 172, 3) := by decide +kernel
theorem dX7_joinTo_11 : decode cX7_joinTo 11 = .ok (.ifCond .eq 34, 3) := by decide +kernel
theorem dX7_joinTo_14 : decode cX7_joinTo 14 = .ok (.aload_n 0, 1) := by decide +kernel
theorem dX7_joinTo_15 : decode cX7_joinTo 15 = .ok (.iload 6, 2) := by decide +kernel
theorem dX7_joinTo_17 : decode cX7_joinTo 17 = .ok (.iconst 0, 1) := by decide +kernel
theorem dX7_joinTo_18 : decode cX7_joinTo 18 = .ok (.aload_n 0, 1) := by decide +kernel
theorem dX7_joinTo_19 : decode cX7_joinTo 19 = .ok (.getfield 136, 3) := by decide +kernel
theorem dX7_joinTo_22 : decode cX7_joinTo 22 = .ok (.iconst 1, 1) := by decide +kernel
theorem dX7_joinTo_23 : decode cX7_joinTo 23 = .ok (.isub, 1) := by decide +kernel
theorem dX7_joinTo_24 : decode cX7_joinTo 24 = .ok (.invokestatic 67, 3) := by decide +kernel
theorem dX7_joinTo_27 : decode cX7_joinTo 27 = .ok (.ifCond .eq 7, 3) := by decide +kernel
theorem dX7_joinTo_30 : decode cX7_joinTo 30 = .ok (.iconst 0, 1) := by decide +kernel
theorem dX7_joinTo_31 : decode cX7_joinTo 31 = .ok (.goto 4, 3) := by decide +kernel
theorem dX7_joinTo_34 : decode cX7_joinTo 34 = .ok (.iconst 4, 1) := by decide +kernel
theorem dX7_joinTo_35 : decode cX7_joinTo 35 = .ok (.invokevirtual 71, 3) := by decide +kernel
theorem dX7_joinTo_38 : decode cX7_joinTo 38 = .ok (.ifCond .eq 7, 3) := by decide +kernel
theorem dX7_joinTo_41 : decode cX7_joinTo 41 = .ok (.iconst 1, 1) := by decide +kernel
theorem dX7_joinTo_42 : decode cX7_joinTo 42 = .ok (.goto 4, 3) := by decide +kernel
theorem dX7_joinTo_45 : decode cX7_joinTo 45 = .ok (.iconst 0, 1) := by decide +kernel
theorem dX7_joinTo_46 : decode cX7_joinTo 46 = .ok (.istore 7, 2) := by decide +kernel
theorem dX7_joinTo_48 : decode cX7_joinTo 48 = .ok (.iload 7, 2) := by decide +kernel
theorem dX7_joinTo_50 : decode cX7_joinTo 50 = .ok (.ifCond .eq 13, 3) := by decide +kernel
theorem dX7_joinTo_53 : decode cX7_joinTo 53 = .ok (.aload_n 0, 1) := by decide +kernel
theorem dX7_joinTo_54 : decode cX7_joinTo 54 = .ok (.getfield 48, 3) := by decide +kernel
theorem dX7_joinTo_57 : decode cX7_joinTo 57 = .ok (.iload 6, 2) := by decide +kernel
theorem dX7_joinTo_59 : decode cX7_joinTo 59 = .ok (.iaload, 1) := by decide +kernel
theorem dX7_joinTo_60 : decode cX7_joinTo 60 = .ok (.goto 4, 3) := by decide +kernel
theorem dX7_joinTo_63 : decode cX7_joinTo 63 = .ok (.iconst 0, 1) := by decide +kernel
theorem dX7_joinTo_64 : decode cX7_joinTo 64 = .ok (.ireturn, 1) := by decide +kernel
theorem dX7_bothDays_0 : decode cX7_bothDays 0 = .ok (.iconst 0, 1) := by decide +kernel
theorem dX7_bothDays_1 : decode cX7_bothDays 1 = .ok (.istore_n 2, 1) := by decide +kernel
theorem dX7_bothDays_2 : decode cX7_bothDays 2 = .ok (.iconst 0, 1) := by decide +kernel
theorem dX7_bothDays_3 : decode cX7_bothDays 3 = .ok (.istore_n 3, 1) := by decide +kernel
theorem dX7_bothDays_4 : decode cX7_bothDays 4 = .ok (.iload_n 3, 1) := by decide +kernel
theorem dX7_bothDays_5 : decode cX7_bothDays 5 = .ok (.bipush 100, 2) := by decide +kernel
theorem dX7_bothDays_7 : decode cX7_bothDays 7 = .ok (.if_icmp .ge 78, 3) := by decide +kernel
theorem dX7_bothDays_10 : decode cX7_bothDays 10 = .ok (.aload_n 0, 1) := by decide +kernel
theorem dX7_bothDays_11 : decode cX7_bothDays 11 = .ok (.getfield 39, 3) := by decide +kernel
theorem dX7_bothDays_14 : decode cX7_bothDays 14 = .ok (.iload_n 3, 1) := by decide +kernel
theorem dX7_bothDays_15 : decode cX7_bothDays 15 = .ok (.iaload, 1) := by decide +kernel
theorem dX7_bothDays_16 : decode cX7_bothDays 16 = .ok (.iconst (-1), 1) := by decide +kernel
theorem dX7_bothDays_17 : decode cX7_bothDays 17 = .ok (.if_icmp .eq 17, 3) := by decide +kernel
theorem dX7_bothDays_20 : decode cX7_bothDays 20 = .ok (.aload_n 0, 1) := by decide +kernel
theorem dX7_bothDays_21 : decode cX7_bothDays 21 = .ok (.getfield 42, 3) := by decide +kernel
theorem dX7_bothDays_24 : decode cX7_bothDays 24 = .ok (.iload_n 3, 1) := by decide +kernel
theorem dX7_bothDays_25 : decode cX7_bothDays 25 = .ok (.iaload, 1) := by decide +kernel
theorem dX7_bothDays_26 : decode cX7_bothDays 26 = .ok (.iconst (-1), 1) := by decide +kernel
theorem dX7_bothDays_27 : decode cX7_bothDays 27 = .ok (.if_icmp .eq 7, 3) := by decide +kernel
theorem dX7_bothDays_30 : decode cX7_bothDays 30 = .ok (.iconst 1, 1) := by decide +kernel
theorem dX7_bothDays_31 : decode cX7_bothDays 31 = .ok (.goto 4, 3) := by decide +kernel
theorem dX7_bothDays_34 : decode cX7_bothDays 34 = .ok (.iconst 0, 1) := by decide +kernel
theorem dX7_bothDays_35 : decode cX7_bothDays 35 = .ok (.istore 4, 2) := by decide +kernel
theorem dX7_bothDays_37 : decode cX7_bothDays 37 = .ok (.iload_n 2, 1) := by decide +kernel
theorem dX7_bothDays_38 : decode cX7_bothDays 38 = .ok (.iload 4, 2) := by decide +kernel
theorem dX7_bothDays_40 : decode cX7_bothDays 40 = .ok (.ifCond .eq 36, 3) := by decide +kernel
theorem dX7_bothDays_43 : decode cX7_bothDays 43 = .ok (.iload_n 1, 1) := by decide +kernel
theorem dX7_bothDays_44 : decode cX7_bothDays 44 = .ok (.ifCond .eq 28, 3) := by decide +kernel
theorem dX7_bothDays_47 : decode cX7_bothDays 47 = .ok (.aload_n 0, 1) := by decide +kernel
theorem dX7_bothDays_48 : decode cX7_bothDays 48 = .ok (.getfield 20, 3) := by decide +kernel
theorem dX7_bothDays_51 : decode cX7_bothDays 51 = .ok (.aload_n 0, 1) := by decide +kernel
theorem dX7_bothDays_52 : decode cX7_bothDays 52 = .ok (.getfield 39, 3) := by decide +kernel
theorem dX7_bothDays_55 : decode cX7_bothDays 55 = .ok (.iload_n 3, 1) := by decide +kernel
theorem dX7_bothDays_56 : decode cX7_bothDays 56 = .ok (.iaload, 1) := by decide +kernel
theorem dX7_bothDays_57 : decode cX7_bothDays 57 = .ok (.iaload, 1) := by decide +kernel
theorem dX7_bothDays_58 : decode cX7_bothDays 58 = .ok (.aload_n 0, 1) := by decide +kernel
theorem dX7_bothDays_59 : decode cX7_bothDays 59 = .ok (.getfield 20, 3) := by decide +kernel
theorem dX7_bothDays_62 : decode cX7_bothDays 62 = .ok (.aload_n 0, 1) := by decide +kernel
theorem dX7_bothDays_63 : decode cX7_bothDays 63 = .ok (.getfield 42, 3) := by decide +kernel
theorem dX7_bothDays_66 : decode cX7_bothDays 66 = .ok (.iload_n 3, 1) := by decide +kernel
theorem dX7_bothDays_67 : decode cX7_bothDays 67 = .ok (.iaload, 1) := by decide +kernel
theorem dX7_bothDays_68 : decode cX7_bothDays 68 = .ok (.iaload, 1) := by decide +kernel
theorem dX7_bothDays_69 : decode cX7_bothDays 69 = .ok (.if_icmp .ne 7, 3) := by decide +kernel
theorem dX7_bothDays_72 : decode cX7_bothDays 72 = .ok (.iconst 1, 1) := by decide +kernel
theorem dX7_bothDays_73 : decode cX7_bothDays 73 = .ok (.goto 4, 3) := by decide +kernel
theorem dX7_bothDays_76 : decode cX7_bothDays 76 = .ok (.iconst 0, 1) := by decide +kernel
theorem dX7_bothDays_77 : decode cX7_bothDays 77 = .ok (.iadd, 1) := by decide +kernel
theorem dX7_bothDays_78 : decode cX7_bothDays 78 = .ok (.istore_n 2, 1) := by decide +kernel
theorem dX7_bothDays_79 : decode cX7_bothDays 79 = .ok (.iinc 3 1, 3) := by decide +kernel
theorem dX7_bothDays_82 : decode cX7_bothDays 82 = .ok (.goto (-78), 3) := by decide +kernel
theorem dX7_bothDays_85 : decode cX7_bothDays 85 = .ok (.iload_n 2, 1) := by decide +kernel
theorem dX7_bothDays_86 : decode cX7_bothDays 86 = .ok (.ireturn, 1) := by decide +kernel
theorem dX7_commonDays_0 : decode cX7_commonDays 0 = .ok (.aload_n 0, 1) := by decide +kernel
theorem dX7_commonDays_1 : decode cX7_commonDays 1 = .ok (.iload_n 1, 1) := by decide +kernel
theorem dX7_commonDays_2 : decode cX7_commonDays 2 = .ok (.iload_n 2, 1) := by decide +kernel
theorem dX7_commonDays_3 : decode cX7_commonDays 3 = .ok (.iload_n 3, 1) := by decide +kernel
theorem dX7_commonDays_4 : decode cX7_commonDays 4 = .ok (.iload 4, 2) := by decide +kernel
theorem dX7_commonDays_6 : decode cX7_commonDays 6 = .ok (.iload 5, 2) := by decide +kernel
theorem dX7_commonDays_8 : decode cX7_commonDays 8 = .ok (.invokevirtual 172, 3) := by decide +kernel
theorem dX7_commonDays_11 : decode cX7_commonDays 11 = .ok (.ifCond .eq 11, 3) := by decide +kernel
theorem dX7_commonDays_14 : decode cX7_commonDays 14 = .ok (.aload_n 0, 1) := by decide +kernel
theorem dX7_commonDays_15 : decode cX7_commonDays 15 = .ok (.iconst 0, 1) := by decide +kernel
theorem dX7_commonDays_16 : decode cX7_commonDays 16 = .ok (.invokevirtual 176, 3) := by decide +kernel
theorem dX7_commonDays_19 : decode cX7_commonDays 19 = .ok (.goto 4, 3) := by decide +kernel
theorem dX7_commonDays_22 : decode cX7_commonDays 22 = .ok (.iconst 0, 1) := by decide +kernel
theorem dX7_commonDays_23 : decode cX7_commonDays 23 = .ok (.ireturn, 1) := by decide +kernel
theorem dX7_agreeDays_0 : decode cX7_agreeDays 0 = .ok (.aload_n 0, 1) := by decide +kernel
theorem dX7_agreeDays_1 : decode cX7_agreeDays 1 = .ok (.iload_n 1, 1) := by decide +kernel
theorem dX7_agreeDays_2 : decode cX7_agreeDays 2 = .ok (.iload_n 2, 1) := by decide +kernel
theorem dX7_agreeDays_3 : decode cX7_agreeDays 3 = .ok (.iload_n 3, 1) := by decide +kernel
theorem dX7_agreeDays_4 : decode cX7_agreeDays 4 = .ok (.iload 4, 2) := by decide +kernel
theorem dX7_agreeDays_6 : decode cX7_agreeDays 6 = .ok (.iload 5, 2) := by decide +kernel
theorem dX7_agreeDays_8 : decode cX7_agreeDays 8 = .ok (.invokevirtual 172, 3) := by decide +kernel
theorem dX7_agreeDays_11 : decode cX7_agreeDays 11 = .ok (.ifCond .eq 11, 3) := by decide +kernel
theorem dX7_agreeDays_14 : decode cX7_agreeDays 14 = .ok (.aload_n 0, 1) := by decide +kernel
theorem dX7_agreeDays_15 : decode cX7_agreeDays 15 = .ok (.iconst 1, 1) := by decide +kernel
theorem dX7_agreeDays_16 : decode cX7_agreeDays 16 = .ok (.invokevirtual 176, 3) := by decide +kernel
theorem dX7_agreeDays_19 : decode cX7_agreeDays 19 = .ok (.goto 4, 3) := by decide +kernel
theorem dX7_agreeDays_22 : decode cX7_agreeDays 22 = .ok (.iconst 0, 1) := by decide +kernel
theorem dX7_agreeDays_23 : decode cX7_agreeDays 23 = .ok (.ireturn, 1) := by decide +kernel
theorem dX7_findsVersions_0 : decode cX7_findsVersions 0 = .ok (.aload_n 0, 1) := by decide +kernel
theorem dX7_findsVersions_1 : decode cX7_findsVersions 1 = .ok (.aload_n 0, 1) := by decide +kernel
theorem dX7_findsVersions_2 : decode cX7_findsVersions 2 = .ok (.iload_n 1, 1) := by decide +kernel
theorem dX7_findsVersions_3 : decode cX7_findsVersions 3 = .ok (.iload_n 2, 1) := by decide +kernel
theorem dX7_findsVersions_4 : decode cX7_findsVersions 4 = .ok (.invokevirtual 92, 3) := by decide +kernel
theorem dX7_findsVersions_7 : decode cX7_findsVersions 7 = .ok (.ifCond .ne 7, 3) := by decide +kernel
theorem dX7_findsVersions_10 : decode cX7_findsVersions 10 = .ok (.iconst 1, 1) := by decide +kernel
theorem dX7_findsVersions_11 : decode cX7_findsVersions 11 = .ok (.goto 18, 3) := by decide +kernel
theorem dX7_findsVersions_14 : decode cX7_findsVersions 14 = .ok (.iload_n 3, 1) := by decide +kernel
theorem dX7_findsVersions_15 : decode cX7_findsVersions 15 = .ok (.iconst 0, 1) := by decide +kernel
theorem dX7_findsVersions_16 : decode cX7_findsVersions 16 = .ok (.bipush 99, 2) := by decide +kernel
theorem dX7_findsVersions_18 : decode cX7_findsVersions 18 = .ok (.invokestatic 67, 3) := by decide +kernel
theorem dX7_findsVersions_21 : decode cX7_findsVersions 21 = .ok (.ifCond .ne 7, 3) := by decide +kernel
theorem dX7_findsVersions_24 : decode cX7_findsVersions 24 = .ok (.iconst 2, 1) := by decide +kernel
theorem dX7_findsVersions_25 : decode cX7_findsVersions 25 = .ok (.goto 4, 3) := by decide +kernel
theorem dX7_findsVersions_28 : decode cX7_findsVersions 28 = .ok (.iconst 0, 1) := by decide +kernel
theorem dX7_findsVersions_29 : decode cX7_findsVersions 29 = .ok (.invokevirtual 71, 3) := by decide +kernel
theorem dX7_findsVersions_32 : decode cX7_findsVersions 32 = .ok (.ifCond .ne 5, 3) := by decide +kernel
theorem dX7_findsVersions_35 : decode cX7_findsVersions 35 = .ok (.iconst 0, 1) := by decide +kernel
theorem dX7_findsVersions_36 : decode cX7_findsVersions 36 = .ok (.ireturn, 1) := by decide +kernel
theorem dX7_findsVersions_37 : decode cX7_findsVersions 37 = .ok (.aload_n 0, 1) := by decide +kernel
theorem dX7_findsVersions_38 : decode cX7_findsVersions 38 = .ok (.iconst 0, 1) := by decide +kernel
theorem dX7_findsVersions_39 : decode cX7_findsVersions 39 = .ok (.putfield 180, 3) := by decide +kernel
theorem dX7_findsVersions_42 : decode cX7_findsVersions 42 = .ok (.aload_n 0, 1) := by decide +kernel
theorem dX7_findsVersions_43 : decode cX7_findsVersions 43 = .ok (.getfield 121, 3) := by decide +kernel
theorem dX7_findsVersions_46 : decode cX7_findsVersions 46 = .ok (.istore 4, 2) := by decide +kernel
theorem dX7_findsVersions_48 : decode cX7_findsVersions 48 = .ok (.iload 4, 2) := by decide +kernel
theorem dX7_findsVersions_50 : decode cX7_findsVersions 50 = .ok (.aload_n 0, 1) := by decide +kernel
theorem dX7_findsVersions_51 : decode cX7_findsVersions 51 = .ok (.getfield 78, 3) := by decide +kernel
theorem dX7_findsVersions_54 : decode cX7_findsVersions 54 = .ok (.if_icmp .gt 146, 3) := by decide +kernel
theorem dX7_findsVersions_57 : decode cX7_findsVersions 57 = .ok (.aload_n 0, 1) := by decide +kernel
theorem dX7_findsVersions_58 : decode cX7_findsVersions 58 = .ok (.iload_n 1, 1) := by decide +kernel
theorem dX7_findsVersions_59 : decode cX7_findsVersions 59 = .ok (.iload_n 2, 1) := by decide +kernel
theorem dX7_findsVersions_60 : decode cX7_findsVersions 60 = .ok (.invokestatic 103, 3) := by decide +kernel
theorem dX7_findsVersions_63 : decode cX7_findsVersions 63 = .ok (.iload_n 3, 1) := by decide +kernel
theorem dX7_findsVersions_64 : decode cX7_findsVersions 64 = .ok (.iload 4, 2) := by decide +kernel
theorem dX7_findsVersions_66 : decode cX7_findsVersions 66 = .ok (.invokevirtual 127, 3) := by decide +kernel
theorem dX7_findsVersions_69 : decode cX7_findsVersions 69 = .ok (.istore 5, 2) := by decide +kernel
theorem dX7_findsVersions_71 : decode cX7_findsVersions 71 = .ok (.aload_n 0, 1) := by decide +kernel
theorem dX7_findsVersions_72 : decode cX7_findsVersions 72 = .ok (.getfield 180, 3) := by decide +kernel
theorem dX7_findsVersions_75 : decode cX7_findsVersions 75 = .ok (.ifCond .ne 7, 3) := by decide +kernel
theorem dX7_findsVersions_78 : decode cX7_findsVersions 78 = .ok (.iconst (-1), 1) := by decide +kernel
theorem dX7_findsVersions_79 : decode cX7_findsVersions 79 = .ok (.goto 14, 3) := by decide +kernel
theorem dX7_findsVersions_82 : decode cX7_findsVersions 82 = .ok (.aload_n 0, 1) := by decide +kernel
theorem dX7_findsVersions_83 : decode cX7_findsVersions 83 = .ok (.getfield 57, 3) := by decide +kernel
theorem dX7_findsVersions_86 : decode cX7_findsVersions 86 = .ok (.aload_n 0, 1) := by decide +kernel
theorem dX7_findsVersions_87 : decode cX7_findsVersions 87 = .ok (.getfield 180, 3) := by decide +kernel
theorem dX7_findsVersions_90 : decode cX7_findsVersions 90 = .ok (.iconst 1, 1) := by decide +kernel
theorem dX7_findsVersions_91 : decode cX7_findsVersions 91 = .ok (.isub, 1) := by decide +kernel
theorem dX7_findsVersions_92 : decode cX7_findsVersions 92 = .ok (.iaload, 1) := by decide +kernel
theorem dX7_findsVersions_93 : decode cX7_findsVersions 93 = .ok (.istore 6, 2) := by decide +kernel
theorem dX7_findsVersions_95 : decode cX7_findsVersions 95 = .ok (.aload_n 0, 1) := by decide +kernel
theorem dX7_findsVersions_96 : decode cX7_findsVersions 96 = .ok (.getfield 180, 3) := by decide +kernel
theorem dX7_findsVersions_99 : decode cX7_findsVersions 99 = .ok (.ifCond .le 55, 3) := by decide +kernel
theorem dX7_findsVersions_102 : decode cX7_findsVersions 102 = .ok (.iload 5, 2) := by decide +kernel
theorem dX7_findsVersions_104 : decode cX7_findsVersions 104 = .ok (.iconst (-1), 1) := by decide +kernel
theorem dX7_findsVersions_105 : decode cX7_findsVersions 105 = .ok (.if_icmp .ne 7, 3) := by decide +kernel
theorem dX7_findsVersions_108 : decode cX7_findsVersions 108 = .ok (.iconst 1, 1) := by decide +kernel
theorem dX7_findsVersions_109 : decode cX7_findsVersions 109 = .ok (.goto 4, 3) := by decide +kernel
theorem dX7_findsVersions_112 : decode cX7_findsVersions 112 = .ok (.iconst 0, 1) := by decide +kernel
theorem dX7_findsVersions_113 : decode cX7_findsVersions 113 = .ok (.iload 6, 2) := by decide +kernel
theorem dX7_findsVersions_115 : decode cX7_findsVersions 115 = .ok (.iconst (-1), 1) := by decide +kernel
theorem dX7_findsVersions_116 : decode cX7_findsVersions 116 = .ok (.if_icmp .ne 7, 3) := by decide +kernel
theorem dX7_findsVersions_119 : decode cX7_findsVersions 119 = .ok (.iconst 1, 1) := by decide +kernel
theorem dX7_findsVersions_120 : decode cX7_findsVersions 120 = .ok (.goto 4, 3) := by decide +kernel
theorem dX7_findsVersions_123 : decode cX7_findsVersions 123 = .ok (.iconst 0, 1) := by decide +kernel
theorem dX7_findsVersions_124 : decode cX7_findsVersions 124 = .ok (.if_icmp .ne 30, 3) := by decide +kernel
theorem dX7_findsVersions_127 : decode cX7_findsVersions 127 = .ok (.iload 5, 2) := by decide +kernel
theorem dX7_findsVersions_129 : decode cX7_findsVersions 129 = .ok (.iconst (-1), 1) := by decide +kernel
theorem dX7_findsVersions_130 : decode cX7_findsVersions 130 = .ok (.if_icmp .eq 20, 3) := by decide +kernel
theorem dX7_findsVersions_133 : decode cX7_findsVersions 133 = .ok (.aload_n 0, 1) := by decide +kernel
theorem dX7_findsVersions_134 : decode cX7_findsVersions 134 = .ok (.getfield 20, 3) := by decide +kernel
theorem dX7_findsVersions_137 : decode cX7_findsVersions 137 = .ok (.iload 5, 2) := by decide +kernel
theorem dX7_findsVersions_139 : decode cX7_findsVersions 139 = .ok (.iaload, 1) := by decide +kernel
theorem dX7_findsVersions_140 : decode cX7_findsVersions 140 = .ok (.aload_n 0, 1) := by decide +kernel
theorem dX7_findsVersions_141 : decode cX7_findsVersions 141 = .ok (.getfield 20, 3) := by decide +kernel
theorem dX7_findsVersions_144 : decode cX7_findsVersions 144 = .ok (.iload 6, 2) := by decide +kernel
theorem dX7_findsVersions_146 : decode cX7_findsVersions 146 = .ok (.iaload, 1) := by decide +kernel
theorem dX7_findsVersions_147 : decode cX7_findsVersions 147 = .ok (.if_icmp .ne 7, 3) := by decide +kernel
theorem dX7_findsVersions_150 : decode cX7_findsVersions 150 = .ok (.iconst 1, 1) := by decide +kernel
theorem dX7_findsVersions_151 : decode cX7_findsVersions 151 = .ok (.goto 4, 3) := by decide +kernel
theorem dX7_findsVersions_154 : decode cX7_findsVersions 154 = .ok (.iconst 0, 1) := by decide +kernel
theorem dX7_findsVersions_155 : decode cX7_findsVersions 155 = .ok (.istore 7, 2) := by decide +kernel
theorem dX7_findsVersions_157 : decode cX7_findsVersions 157 = .ok (.iload 7, 2) := by decide +kernel
theorem dX7_findsVersions_159 : decode cX7_findsVersions 159 = .ok (.ifCond .ne 35, 3) := by decide +kernel
theorem dX7_findsVersions_162 : decode cX7_findsVersions 162 = .ok (.aload_n 0, 1) := by decide +kernel
theorem dX7_findsVersions_163 : decode cX7_findsVersions 163 = .ok (.getfield 54, 3) := by decide +kernel
theorem dX7_findsVersions_166 : decode cX7_findsVersions 166 = .ok (.aload_n 0, 1) := by decide +kernel
theorem dX7_findsVersions_167 : decode cX7_findsVersions 167 = .ok (.getfield 180, 3) := by decide +kernel
theorem dX7_findsVersions_170 : decode cX7_findsVersions 170 = .ok (.iload 4, 2) := by decide +kernel
theorem dX7_findsVersions_172 : decode cX7_findsVersions 172 = .ok (.iastore, 1) := by decide +kernel
theorem dX7_findsVersions_173 : decode cX7_findsVersions 173 = .ok (.aload_n 0, 1) := by decide +kernel
theorem dX7_findsVersions_174 : decode cX7_findsVersions 174 = .ok (.getfield 57, 3) := by decide +kernel
theorem dX7_findsVersions_177 : decode cX7_findsVersions 177 = .ok (.aload_n 0, 1) := by decide +kernel
theorem dX7_findsVersions_178 : decode cX7_findsVersions 178 = .ok (.getfield 180, 3) := by decide +kernel
theorem dX7_findsVersions_181 : decode cX7_findsVersions 181 = .ok (.iload 5, 2) := by decide +kernel
theorem dX7_findsVersions_183 : decode cX7_findsVersions 183 = .ok (.iastore, 1) := by decide +kernel
theorem dX7_findsVersions_184 : decode cX7_findsVersions 184 = .ok (.aload_n 0, 1) := by decide +kernel
theorem dX7_findsVersions_185 : decode cX7_findsVersions 185 = .ok (.dup, 1) := by decide +kernel
theorem dX7_findsVersions_186 : decode cX7_findsVersions 186 = .ok (.getfield 180, 3) := by decide +kernel
theorem dX7_findsVersions_189 : decode cX7_findsVersions 189 = .ok (.iconst 1, 1) := by decide +kernel
theorem dX7_findsVersions_190 : decode cX7_findsVersions 190 = .ok (.iadd, 1) := by decide +kernel
theorem dX7_findsVersions_191 : decode cX7_findsVersions 191 = .ok (.putfield 180, 3) := by decide +kernel
theorem dX7_findsVersions_194 : decode cX7_findsVersions 194 = .ok (.iinc 4 1, 3) := by decide +kernel
theorem dX7_findsVersions_197 : decode cX7_findsVersions 197 = .ok (.goto (-149), 3) := by decide +kernel
theorem dX7_findsVersions_200 : decode cX7_findsVersions 200 = .ok (.iconst 1, 1) := by decide +kernel
theorem dX7_findsVersions_201 : decode cX7_findsVersions 201 = .ok (.ireturn, 1) := by decide +kernel
theorem dX7_findsVersion_0 : decode cX7_findsVersion 0 = .ok (.aload_n 0, 1) := by decide +kernel
theorem dX7_findsVersion_1 : decode cX7_findsVersion 1 = .ok (.iload_n 1, 1) := by decide +kernel
theorem dX7_findsVersion_2 : decode cX7_findsVersion 2 = .ok (.iload_n 2, 1) := by decide +kernel
theorem dX7_findsVersion_3 : decode cX7_findsVersion 3 = .ok (.iload_n 3, 1) := by decide +kernel
theorem dX7_findsVersion_4 : decode cX7_findsVersion 4 = .ok (.invokevirtual 183, 3) := by decide +kernel
theorem dX7_findsVersion_7 : decode cX7_findsVersion 7 = .ok (.ifCond .eq 34, 3) := by decide +kernel
theorem dX7_findsVersion_10 : decode cX7_findsVersion 10 = .ok (.aload_n 0, 1) := by decide +kernel
theorem dX7_findsVersion_11 : decode cX7_findsVersion 11 = .ok (.iload 4, 2) := by decide +kernel
theorem dX7_findsVersion_13 : decode cX7_findsVersion 13 = .ok (.iconst 0, 1) := by decide +kernel
theorem dX7_findsVersion_14 : decode cX7_findsVersion 14 = .ok (.aload_n 0, 1) := by decide +kernel
theorem dX7_findsVersion_15 : decode cX7_findsVersion 15 = .ok (.getfield 180, 3) := by decide +kernel
theorem dX7_findsVersion_18 : decode cX7_findsVersion 18 = .ok (.iconst 1, 1) := by decide +kernel
theorem dX7_findsVersion_19 : decode cX7_findsVersion 19 = .ok (.isub, 1) := by decide +kernel
theorem dX7_findsVersion_20 : decode cX7_findsVersion 20 = .ok (.invokestatic 67, 3) := by decide +kernel
theorem dX7_findsVersion_23 : decode cX7_findsVersion 23 = .ok (.ifCond .eq 7, 3) := by decide +kernel
theorem dX7_findsVersion_26 : decode cX7_findsVersion 26 = .ok (.iconst 0, 1) := by decide +kernel
theorem dX7_findsVersion_27 : decode cX7_findsVersion 27 = .ok (.goto 4, 3) := by decide +kernel
theorem dX7_findsVersion_30 : decode cX7_findsVersion 30 = .ok (.iconst 3, 1) := by decide +kernel
theorem dX7_findsVersion_31 : decode cX7_findsVersion 31 = .ok (.invokevirtual 71, 3) := by decide +kernel
theorem dX7_findsVersion_34 : decode cX7_findsVersion 34 = .ok (.ifCond .eq 7, 3) := by decide +kernel
theorem dX7_findsVersion_37 : decode cX7_findsVersion 37 = .ok (.iconst 1, 1) := by decide +kernel
theorem dX7_findsVersion_38 : decode cX7_findsVersion 38 = .ok (.goto 4, 3) := by decide +kernel
theorem dX7_findsVersion_41 : decode cX7_findsVersion 41 = .ok (.iconst 0, 1) := by decide +kernel
theorem dX7_findsVersion_42 : decode cX7_findsVersion 42 = .ok (.ireturn, 1) := by decide +kernel
theorem dX7_versionCount_0 : decode cX7_versionCount 0 = .ok (.aload_n 0, 1) := by decide +kernel
theorem dX7_versionCount_1 : decode cX7_versionCount 1 = .ok (.iload_n 1, 1) := by decide +kernel
theorem dX7_versionCount_2 : decode cX7_versionCount 2 = .ok (.iload_n 2, 1) := by decide +kernel
theorem dX7_versionCount_3 : decode cX7_versionCount 3 = .ok (.iload_n 3, 1) := by decide +kernel
theorem dX7_versionCount_4 : decode cX7_versionCount 4 = .ok (.invokevirtual 183, 3) := by decide +kernel
theorem dX7_versionCount_7 : decode cX7_versionCount 7 = .ok (.ifCond .eq 10, 3) := by decide +kernel
theorem dX7_versionCount_10 : decode cX7_versionCount 10 = .ok (.aload_n 0, 1) := by decide +kernel
theorem dX7_versionCount_11 : decode cX7_versionCount 11 = .ok (.getfield 180, 3) := by decide +kernel
theorem dX7_versionCount_14 : decode cX7_versionCount 14 = .ok (.goto 4, 3) := by decide +kernel
theorem dX7_versionCount_17 : decode cX7_versionCount 17 = .ok (.iconst 0, 1) := by decide +kernel
theorem dX7_versionCount_18 : decode cX7_versionCount 18 = .ok (.ireturn, 1) := by decide +kernel
theorem dX7_versionTick_0 : decode cX7_versionTick 0 = .ok (.aload_n 0, 1) := by decide +kernel
theorem dX7_versionTick_1 : decode cX7_versionTick 1 = .ok (.iload_n 1, 1) := by decide +kernel
theorem dX7_versionTick_2 : decode cX7_versionTick 2 = .ok (.iload_n 2, 1) := by decide +kernel
theorem dX7_versionTick_3 : decode cX7_versionTick 3 = .ok (.iload_n 3, 1) := by decide +kernel
theorem dX7_versionTick_4 : decode cX7_versionTick 4 = .ok (.iload 4, 2) := by decide +kernel
theorem dX7_versionTick_6 : decode cX7_versionTick 6 = .ok (.invokevirtual 186, 3) := by decide +kernel
theorem dX7_versionTick_9 : decode cX7_versionTick 9 = .ok (.ifCond .eq 13, 3) := by decide +kernel
theorem dX7_versionTick_12 : decode cX7_versionTick 12 = .ok (.aload_n 0, 1) := by decide +kernel
theorem dX7_versionTick_13 : decode cX7_versionTick 13 = .ok (.getfield 54, 3) := by decide +kernel
theorem dX7_versionTick_16 : decode cX7_versionTick 16 = .ok (.iload 4, 2) := by decide +kernel
theorem dX7_versionTick_18 : decode cX7_versionTick 18 = .ok (.iaload, 1) := by decide +kernel
theorem dX7_versionTick_19 : decode cX7_versionTick 19 = .ok (.goto 4, 3) := by decide +kernel
theorem dX7_versionTick_22 : decode cX7_versionTick 22 = .ok (.iconst 0, 1) := by decide +kernel
theorem dX7_versionTick_23 : decode cX7_versionTick 23 = .ok (.ireturn, 1) := by decide +kernel
theorem dX7_isVersionKnown_0 : decode cX7_isVersionKnown 0 = .ok (.aload_n 0, 1) := by decide +kernel
theorem dX7_isVersionKnown_1 : decode cX7_isVersionKnown 1 = .ok (.iload_n 1, 1) := by decide +kernel
theorem dX7_isVersionKnown_2 : decode cX7_isVersionKnown 2 = .ok (.iload_n 2, 1) := by decide +kernel
theorem dX7_isVersionKnown_3 : decode cX7_isVersionKnown 3 = .ok (.iload_n 3, 1) := by decide +kernel
theorem dX7_isVersionKnown_4 : decode cX7_isVersionKnown 4 = .ok (.iload 4, 2) := by decide +kernel
theorem dX7_isVersionKnown_6 : decode cX7_isVersionKnown 6 = .ok (.invokevirtual 186, 3) := by decide +kernel
theorem dX7_isVersionKnown_9 : decode cX7_isVersionKnown 9 = .ok (.ifCond .eq 18, 3) := by decide +kernel
theorem dX7_isVersionKnown_12 : decode cX7_isVersionKnown 12 = .ok (.aload_n 0, 1) := by decide +kernel
theorem dX7_isVersionKnown_13 : decode cX7_isVersionKnown 13 = .ok (.getfield 57, 3) := by decide +kernel
theorem dX7_isVersionKnown_16 : decode cX7_isVersionKnown 16 = .ok (.iload 4, 2) := by decide +kernel
theorem dX7_isVersionKnown_18 : decode cX7_isVersionKnown 18 = .ok (.iaload, 1) := by decide +kernel
theorem dX7_isVersionKnown_19 : decode cX7_isVersionKnown 19 = .ok (.iconst (-1), 1) := by decide +kernel
theorem dX7_isVersionKnown_20 : decode cX7_isVersionKnown 20 = .ok (.if_icmp .eq 7, 3) := by decide +kernel
theorem dX7_isVersionKnown_23 : decode cX7_isVersionKnown 23 = .ok (.iconst 1, 1) := by decide +kernel
theorem dX7_isVersionKnown_24 : decode cX7_isVersionKnown 24 = .ok (.goto 4, 3) := by decide +kernel
theorem dX7_isVersionKnown_27 : decode cX7_isVersionKnown 27 = .ok (.iconst 0, 1) := by decide +kernel
theorem dX7_isVersionKnown_28 : decode cX7_isVersionKnown 28 = .ok (.ireturn, 1) := by decide +kernel
theorem dX7_versionValue_0 : decode cX7_versionValue 0 = .ok (.aload_n 0, 1) := by decide +kernel
theorem dX7_versionValue_1 : decode cX7_versionValue 1 = .ok (.iload_n 1, 1) := by decide +kernel
theorem dX7_versionValue_2 : decode cX7_versionValue 2 = .ok (.iload_n 2, 1) := by decide +kernel
theorem dX7_versionValue_3 : decode cX7_versionValue 3 = .ok (.iload_n 3, 1) := by decide +kernel
theorem dX7_versionValue_4 : decode cX7_versionValue 4 = .ok (.iload 4, 2) := by decide +kernel
theorem dX7_versionValue_6 : decode cX7_versionValue 6 = .ok (.invokevirtual 186, 3) := by decide +kernel
theorem dX7_versionValue_9 : decode cX7_versionValue 9 = .ok (.ifCond .eq 30, 3) := by decide +kernel
theorem dX7_versionValue_12 : decode cX7_versionValue 12 = .ok (.aload_n 0, 1) := by decide +kernel
theorem dX7_versionValue_13 : decode cX7_versionValue 13 = .ok (.aload_n 0, 1) := by decide +kernel
theorem dX7_versionValue_14 : decode cX7_versionValue 14 = .ok (.getfield 57, 3) := by decide +kernel
theorem dX7_versionValue_17 : decode cX7_versionValue 17 = .ok (.iload 4, 2) := by decide +kernel
theorem dX7_versionValue_19 : decode cX7_versionValue 19 = .ok (.iaload, 1) := by decide +kernel
theorem dX7_versionValue_20 : decode cX7_versionValue 20 = .ok (.iconst (-1), 1) := by decide +kernel
theorem dX7_versionValue_21 : decode cX7_versionValue 21 = .ok (.if_icmp .ne 7, 3) := by decide +kernel
theorem dX7_versionValue_24 : decode cX7_versionValue 24 = .ok (.iconst 3, 1) := by decide +kernel
theorem dX7_versionValue_25 : decode cX7_versionValue 25 = .ok (.goto 4, 3) := by decide +kernel
theorem dX7_versionValue_28 : decode cX7_versionValue 28 = .ok (.iconst 0, 1) := by decide +kernel
theorem dX7_versionValue_29 : decode cX7_versionValue 29 = .ok (.invokevirtual 71, 3) := by decide +kernel
theorem dX7_versionValue_32 : decode cX7_versionValue 32 = .ok (.ifCond .eq 7, 3) := by decide +kernel
theorem dX7_versionValue_35 : decode cX7_versionValue 35 = .ok (.iconst 1, 1) := by decide +kernel
theorem dX7_versionValue_36 : decode cX7_versionValue 36 = .ok (.goto 4, 3) := by decide +kernel
theorem dX7_versionValue_39 : decode cX7_versionValue 39 = .ok (.iconst 0, 1) := by decide +kernel
theorem dX7_versionValue_40 : decode cX7_versionValue 40 = .ok (.istore 5, 2) := by decide +kernel
theorem dX7_versionValue_42 : decode cX7_versionValue 42 = .ok (.iload 5, 2) := by decide +kernel
theorem dX7_versionValue_44 : decode cX7_versionValue 44 = .ok (.ifCond .eq 18, 3) := by decide +kernel
theorem dX7_versionValue_47 : decode cX7_versionValue 47 = .ok (.aload_n 0, 1) := by decide +kernel
theorem dX7_versionValue_48 : decode cX7_versionValue 48 = .ok (.getfield 20, 3) := by decide +kernel
theorem dX7_versionValue_51 : decode cX7_versionValue 51 = .ok (.aload_n 0, 1) := by decide +kernel
theorem dX7_versionValue_52 : decode cX7_versionValue 52 = .ok (.getfield 57, 3) := by decide +kernel
theorem dX7_versionValue_55 : decode cX7_versionValue 55 = .ok (.iload 4, 2) := by decide +kernel
theorem dX7_versionValue_57 : decode cX7_versionValue 57 = .ok (.iaload, 1) := by decide +kernel
theorem dX7_versionValue_58 : decode cX7_versionValue 58 = .ok (.iaload, 1) := by decide +kernel
theorem dX7_versionValue_59 : decode cX7_versionValue 59 = .ok (.goto 4, 3) := by decide +kernel
theorem dX7_versionValue_62 : decode cX7_versionValue 62 = .ok (.iconst 0, 1) := by decide +kernel
theorem dX7_versionValue_63 : decode cX7_versionValue 63 = .ok (.ireturn, 1) := by decide +kernel
theorem dX7_writes_0 : decode cX7_writes 0 = .ok (.aload_n 0, 1) := by decide +kernel
theorem dX7_writes_1 : decode cX7_writes 1 = .ok (.getfield 51, 3) := by decide +kernel
theorem dX7_writes_4 : decode cX7_writes 4 = .ok (.aload_n 0, 1) := by decide +kernel
theorem dX7_writes_5 : decode cX7_writes 5 = .ok (.getfield 189, 3) := by decide +kernel
theorem dX7_writes_8 : decode cX7_writes 8 = .ok (.iload_n 1, 1) := by decide +kernel
theorem dX7_writes_9 : decode cX7_writes 9 = .ok (.castore, 1) := by decide +kernel
theorem dX7_writes_10 : decode cX7_writes 10 = .ok (.aload_n 0, 1) := by decide +kernel
theorem dX7_writes_11 : decode cX7_writes 11 = .ok (.dup, 1) := by decide +kernel
theorem dX7_writes_12 : decode cX7_writes 12 = .ok (.getfield 189, 3) := by decide +kernel
theorem dX7_writes_15 : decode cX7_writes 15 = .ok (.iconst 1, 1) := by decide +kernel
theorem dX7_writes_16 : decode cX7_writes 16 = .ok (.iadd, 1) := by decide +kernel
theorem dX7_writes_17 : decode cX7_writes 17 = .ok (.putfield 189, 3) := by decide +kernel
theorem dX7_writes_20 : decode cX7_writes 20 = .ok (.return_, 1) := by decide +kernel
theorem dX7_writesNumber_0 : decode cX7_writesNumber 0 = .ok (.iload_n 1, 1) := by decide +kernel
theorem dX7_writesNumber_1 : decode cX7_writesNumber 1 = .ok (.i2l, 1) := by decide +kernel
theorem dX7_writesNumber_2 : decode cX7_writesNumber 2 = .ok (.lstore_n 2, 1) := by decide +kernel
theorem dX7_writesNumber_3 : decode cX7_writesNumber 3 = .ok (.lload_n 2, 1) := by decide +kernel
theorem dX7_writesNumber_4 : decode cX7_writesNumber 4 = .ok (.lconst 0, 1) := by decide +kernel
theorem dX7_writesNumber_5 : decode cX7_writesNumber 5 = .ok (.lcmp, 1) := by decide +kernel
theorem dX7_writesNumber_6 : decode cX7_writesNumber 6 = .ok (.ifCond .ge 12, 3) := by decide +kernel
theorem dX7_writesNumber_9 : decode cX7_writesNumber 9 = .ok (.aload_n 0, 1) := by decide +kernel
theorem dX7_writesNumber_10 : decode cX7_writesNumber 10 = .ok (.bipush 45, 2) := by decide +kernel
theorem dX7_writesNumber_12 : decode cX7_writesNumber 12 = .ok (.invokevirtual 192, 3) := by decide +kernel
theorem dX7_writesNumber_15 : decode cX7_writesNumber 15 = .ok (.lload_n 2, 1) := by decide +kernel
theorem dX7_writesNumber_16 : decode cX7_writesNumber 16 = .ok (.lneg, 1) := by decide +kernel
theorem dX7_writesNumber_17 : decode cX7_writesNumber 17 = .ok (.lstore_n 2, 1) := by decide +kernel
theorem dX7_writesNumber_18 : decode cX7_writesNumber 18 = .ok (.lconst 1, 1) := by decide +kernel
theorem dX7_writesNumber_19 : decode cX7_writesNumber 19 = .ok (.lstore 4, 2) := by decide +kernel
theorem dX7_writesNumber_21 : decode cX7_writesNumber 21 = .ok (.lload_n 2, 1) := by decide +kernel
theorem dX7_writesNumber_22 : decode cX7_writesNumber 22 = .ok (.lload 4, 2) := by decide +kernel
theorem dX7_writesNumber_24 : decode cX7_writesNumber 24 = .ok (.ldiv, 1) := by decide +kernel
theorem dX7_writesNumber_25 : decode cX7_writesNumber 25 = .ok (.ldc2_w 196, 3) := by decide +kernel
theorem dX7_writesNumber_28 : decode cX7_writesNumber 28 = .ok (.lcmp, 1) := by decide +kernel
theorem dX7_writesNumber_29 : decode cX7_writesNumber 29 = .ok (.ifCond .le 14, 3) := by decide +kernel
theorem dX7_writesNumber_32 : decode cX7_writesNumber 32 = .ok (.lload 4, 2) := by decide +kernel
theorem dX7_writesNumber_34 : decode cX7_writesNumber 34 = .ok (.ldc2_w 198, 3) := by decide +kernel
theorem dX7_writesNumber_37 : decode cX7_writesNumber 37 = .ok (.lmul, 1) := by decide +kernel
theorem dX7_writesNumber_38 : decode cX7_writesNumber 38 = .ok (.lstore 4, 2) := by decide +kernel
theorem dX7_writesNumber_40 : decode cX7_writesNumber 40 = .ok (.goto (-19), 3) := by decide +kernel
theorem dX7_writesNumber_43 : decode cX7_writesNumber 43 = .ok (.lload 4, 2) := by decide +kernel
theorem dX7_writesNumber_45 : decode cX7_writesNumber 45 = .ok (.lconst 0, 1) := by decide +kernel
theorem dX7_writesNumber_46 : decode cX7_writesNumber 46 = .ok (.lcmp, 1) := by decide +kernel
theorem dX7_writesNumber_47 : decode cX7_writesNumber 47 = .ok (.ifCond .le 31, 3) := by decide +kernel
theorem dX7_writesNumber_50 : decode cX7_writesNumber 50 = .ok (.aload_n 0, 1) := by decide +kernel
theorem dX7_writesNumber_51 : decode cX7_writesNumber 51 = .ok (.bipush 48, 2) := by decide +kernel
theorem dX7_writesNumber_53 : decode cX7_writesNumber 53 = .ok (.lload_n 2, 1) := by decide +kernel
theorem dX7_writesNumber_54 : decode cX7_writesNumber 54 = .ok (.lload 4, 2) := by decide +kernel
theorem dX7_writesNumber_56 : decode cX7_writesNumber 56 = .ok (.ldiv, 1) := by decide +kernel
theorem dX7_writesNumber_57 : decode cX7_writesNumber 57 = .ok (.ldc2_w 198, 3) := by decide +kernel
theorem dX7_writesNumber_60 : decode cX7_writesNumber 60 = .ok (.lrem, 1) := by decide +kernel
theorem dX7_writesNumber_61 : decode cX7_writesNumber 61 = .ok (.l2i, 1) := by decide +kernel
theorem dX7_writesNumber_62 : decode cX7_writesNumber 62 = .ok (.iadd, 1) := by decide +kernel
theorem dX7_writesNumber_63 : decode cX7_writesNumber 63 = .ok (.i2c, 1) := by decide +kernel
theorem dX7_writesNumber_64 : decode cX7_writesNumber 64 = .ok (.invokevirtual 192, 3) := by decide +kernel
theorem dX7_writesNumber_67 : decode cX7_writesNumber 67 = .ok (.lload 4, 2) := by decide +kernel
theorem dX7_writesNumber_69 : decode cX7_writesNumber 69 = .ok (.ldc2_w 198, 3) := by decide +kernel
theorem dX7_writesNumber_72 : decode cX7_writesNumber 72 = .ok (.ldiv, 1) := by decide +kernel
theorem dX7_writesNumber_73 : decode cX7_writesNumber 73 = .ok (.lstore 4, 2) := by decide +kernel
theorem dX7_writesNumber_75 : decode cX7_writesNumber 75 = .ok (.goto (-32), 3) := by decide +kernel
theorem dX7_writesNumber_78 : decode cX7_writesNumber 78 = .ok (.return_, 1) := by decide +kernel
theorem dX7_writePeriods_0 : decode cX7_writePeriods 0 = .ok (.aload_n 0, 1) := by decide +kernel
theorem dX7_writePeriods_1 : decode cX7_writePeriods 1 = .ok (.iload_n 1, 1) := by decide +kernel
theorem dX7_writePeriods_2 : decode cX7_writePeriods 2 = .ok (.iload_n 2, 1) := by decide +kernel
theorem dX7_writePeriods_3 : decode cX7_writePeriods 3 = .ok (.iload_n 3, 1) := by decide +kernel
theorem dX7_writePeriods_4 : decode cX7_writePeriods 4 = .ok (.invokevirtual 147, 3) := by decide +kernel
theorem dX7_writePeriods_7 : decode cX7_writePeriods 7 = .ok (.ifCond .ne 5, 3) := by decide +kernel
theorem dX7_writePeriods_10 : decode cX7_writePeriods 10 = .ok (.iconst 0, 1) := by decide +kernel
theorem dX7_writePeriods_11 : decode cX7_writePeriods 11 = .ok (.ireturn, 1) := by decide +kernel
theorem dX7_writePeriods_12 : decode cX7_writePeriods 12 = .ok (.aload_n 0, 1) := by decide +kernel
theorem dX7_writePeriods_13 : decode cX7_writePeriods 13 = .ok (.iconst 0, 1) := by decide +kernel
theorem dX7_writePeriods_14 : decode cX7_writePeriods 14 = .ok (.putfield 189, 3) := by decide +kernel
theorem dX7_writePeriods_17 : decode cX7_writePeriods 17 = .ok (.iconst 0, 1) := by decide +kernel
theorem dX7_writePeriods_18 : decode cX7_writePeriods 18 = .ok (.istore 4, 2) := by decide +kernel
theorem dX7_writePeriods_20 : decode cX7_writePeriods 20 = .ok (.iload 4, 2) := by decide +kernel
theorem dX7_writePeriods_22 : decode cX7_writePeriods 22 = .ok (.aload_n 0, 1) := by decide +kernel
theorem dX7_writePeriods_23 : decode cX7_writePeriods 23 = .ok (.getfield 136, 3) := by decide +kernel
theorem dX7_writePeriods_26 : decode cX7_writePeriods 26 = .ok (.if_icmp .ge 75, 3) := by decide +kernel
theorem dX7_writePeriods_29 : decode cX7_writePeriods 29 = .ok (.iload 4, 2) := by decide +kernel
theorem dX7_writePeriods_31 : decode cX7_writePeriods 31 = .ok (.ifCond .le 9, 3) := by decide +kernel
theorem dX7_writePeriods_34 : decode cX7_writePeriods 34 = .ok (.aload_n 0, 1) := by decide +kernel
theorem dX7_writePeriods_35 : decode cX7_writePeriods 35 = .ok (.bipush 32, 2) := by decide +kernel
theorem dX7_writePeriods_37 : decode cX7_writePeriods 37 = .ok (.invokevirtual 192, 3) := by decide +kernel
theorem dX7_writePeriods_40 : decode cX7_writePeriods 40 = .ok (.aload_n 0, 1) := by decide +kernel
theorem dX7_writePeriods_41 : decode cX7_writePeriods 41 = .ok (.aload_n 0, 1) := by decide +kernel
theorem dX7_writePeriods_42 : decode cX7_writePeriods 42 = .ok (.getfield 45, 3) := by decide +kernel
theorem dX7_writePeriods_45 : decode cX7_writePeriods 45 = .ok (.iload 4, 2) := by decide +kernel
theorem dX7_writePeriods_47 : decode cX7_writePeriods 47 = .ok (.iaload, 1) := by decide +kernel
theorem dX7_writePeriods_48 : decode cX7_writePeriods 48 = .ok (.invokevirtual 200, 3) := by decide +kernel
theorem dX7_writePeriods_51 : decode cX7_writePeriods 51 = .ok (.aload_n 0, 1) := by decide +kernel
theorem dX7_writePeriods_52 : decode cX7_writePeriods 52 = .ok (.bipush 45, 2) := by decide +kernel
theorem dX7_writePeriods_54 : decode cX7_writePeriods 54 = .ok (.invokevirtual 192, 3) := by decide +kernel
theorem dX7_writePeriods_57 : decode cX7_writePeriods 57 = .ok (.aload_n 0, 1) := by decide +kernel
theorem dX7_writePeriods_58 : decode cX7_writePeriods 58 = .ok (.aload_n 0, 1) := by decide +kernel
theorem dX7_writePeriods_59 : decode cX7_writePeriods 59 = .ok (.getfield 48, 3) := by decide +kernel
theorem dX7_writePeriods_62 : decode cX7_writePeriods 62 = .ok (.iload 4, 2) := by decide +kernel
theorem dX7_writePeriods_64 : decode cX7_writePeriods 64 = .ok (.iaload, 1) := by decide +kernel
theorem dX7_writePeriods_65 : decode cX7_writePeriods 65 = .ok (.invokevirtual 200, 3) := by decide +kernel
theorem dX7_writePeriods_68 : decode cX7_writePeriods 68 = .ok (.aload_n 0, 1) := by decide +kernel
theorem dX7_writePeriods_69 : decode cX7_writePeriods 69 = .ok (.bipush 61, 2) := by decide +kernel
theorem dX7_writePeriods_71 : decode cX7_writePeriods 71 = .ok (.invokevirtual 192, 3) := by decide +kernel
theorem dX7_writePeriods_74 : decode cX7_writePeriods 74 = .ok (.aload_n 0, 1) := by decide +kernel
theorem dX7_writePeriods_75 : decode cX7_writePeriods 75 = .ok (.aload_n 0, 1) := by decide +kernel
theorem dX7_writePeriods_76 : decode cX7_writePeriods 76 = .ok (.getfield 20, 3) := by decide +kernel
theorem dX7_writePeriods_79 : decode cX7_writePeriods 79 = .ok (.aload_n 0, 1) := by decide +kernel
theorem dX7_writePeriods_80 : decode cX7_writePeriods 80 = .ok (.getfield 39, 3) := by decide +kernel
theorem dX7_writePeriods_83 : decode cX7_writePeriods 83 = .ok (.aload_n 0, 1) := by decide +kernel
theorem dX7_writePeriods_84 : decode cX7_writePeriods 84 = .ok (.getfield 45, 3) := by decide +kernel
theorem dX7_writePeriods_87 : decode cX7_writePeriods 87 = .ok (.iload 4, 2) := by decide +kernel
theorem dX7_writePeriods_89 : decode cX7_writePeriods 89 = .ok (.iaload, 1) := by decide +kernel
theorem dX7_writePeriods_90 : decode cX7_writePeriods 90 = .ok (.iaload, 1) := by decide +kernel
theorem dX7_writePeriods_91 : decode cX7_writePeriods 91 = .ok (.iaload, 1) := by decide +kernel
theorem dX7_writePeriods_92 : decode cX7_writePeriods 92 = .ok (.invokevirtual 200, 3) := by decide +kernel
theorem dX7_writePeriods_95 : decode cX7_writePeriods 95 = .ok (.iinc 4 1, 3) := by decide +kernel
theorem dX7_writePeriods_98 : decode cX7_writePeriods 98 = .ok (.goto (-78), 3) := by decide +kernel
theorem dX7_writePeriods_101 : decode cX7_writePeriods 101 = .ok (.aload_n 0, 1) := by decide +kernel
theorem dX7_writePeriods_102 : decode cX7_writePeriods 102 = .ok (.getfield 189, 3) := by decide +kernel
theorem dX7_writePeriods_105 : decode cX7_writePeriods 105 = .ok (.ireturn, 1) := by decide +kernel
theorem dX7_lineAt_0 : decode cX7_lineAt 0 = .ok (.aload_n 0, 1) := by decide +kernel
theorem dX7_lineAt_1 : decode cX7_lineAt 1 = .ok (.iload_n 1, 1) := by decide +kernel
theorem dX7_lineAt_2 : decode cX7_lineAt 2 = .ok (.iconst 0, 1) := by decide +kernel
theorem dX7_lineAt_3 : decode cX7_lineAt 3 = .ok (.aload_n 0, 1) := by decide +kernel
theorem dX7_lineAt_4 : decode cX7_lineAt 4 = .ok (.getfield 189, 3) := by decide +kernel
theorem dX7_lineAt_7 : decode cX7_lineAt 7 = .ok (.iconst 1, 1) := by decide +kernel
theorem dX7_lineAt_8 : decode cX7_lineAt 8 = .ok (.isub, 1) := by decide +kernel
theorem dX7_lineAt_9 : decode cX7_lineAt 9 = .ok (.invokestatic 67, 3) := by decide +kernel
theorem dX7_lineAt_12 : decode cX7_lineAt 12 = .ok (.ifCond .eq 7, 3) := by decide +kernel
theorem dX7_lineAt_15 : decode cX7_lineAt 15 = .ok (.iconst 0, 1) := by decide +kernel
theorem dX7_lineAt_16 : decode cX7_lineAt 16 = .ok (.goto 4, 3) := by decide +kernel
theorem dX7_lineAt_19 : decode cX7_lineAt 19 = .ok (.iconst 1, 1) := by decide +kernel
theorem dX7_lineAt_20 : decode cX7_lineAt 20 = .ok (.invokevirtual 71, 3) := by decide +kernel
theorem dX7_lineAt_23 : decode cX7_lineAt 23 = .ok (.ifCond .eq 12, 3) := by decide +kernel
theorem dX7_lineAt_26 : decode cX7_lineAt 26 = .ok (.aload_n 0, 1) := by decide +kernel
theorem dX7_lineAt_27 : decode cX7_lineAt 27 = .ok (.getfield 51, 3) := by decide +kernel
theorem dX7_lineAt_30 : decode cX7_lineAt 30 = .ok (.iload_n 1, 1) := by decide +kernel
theorem dX7_lineAt_31 : decode cX7_lineAt 31 = .ok (.caload, 1) := by decide +kernel
theorem dX7_lineAt_32 : decode cX7_lineAt 32 = .ok (.goto 4, 3) := by decide +kernel
theorem dX7_lineAt_35 : decode cX7_lineAt 35 = .ok (.iconst 0, 1) := by decide +kernel
theorem dX7_lineAt_36 : decode cX7_lineAt 36 = .ok (.ireturn, 1) := by decide +kernel
theorem dX7_isConsistent_0 : decode cX7_isConsistent 0 = .ok (.aload_n 0, 1) := by decide +kernel
theorem dX7_isConsistent_1 : decode cX7_isConsistent 1 = .ok (.iconst 0, 1) := by decide +kernel
theorem dX7_isConsistent_2 : decode cX7_isConsistent 2 = .ok (.putfield 60, 3) := by decide +kernel
theorem dX7_isConsistent_5 : decode cX7_isConsistent 5 = .ok (.iconst 1, 1) := by decide +kernel
theorem dX7_isConsistent_6 : decode cX7_isConsistent 6 = .ok (.ireturn, 1) := by decide +kernel
