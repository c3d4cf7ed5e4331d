theorem d_M_answers_0 : decode b_M_answers 0 = .ok (.aload_n 0, 1) := by decide +kernel
theorem d_M_answers_1 : decode b_M_answers 1 = .ok (.getfield 20, 3) := by decide +kernel
theorem d_M_answers_4 : decode b_M_answers 4 = .ok (.iload_n 1, 1) := by decide +kernel
theorem d_M_answers_5 : decode b_M_answers 5 = .ok (.iaload, 1) := by decide +kernel
theorem d_M_answers_6 : decode b_M_answers 6 = .ok (.iconst 3, 1) := by decide +kernel
theorem d_M_answers_7 : decode b_M_answers 7 = .ok (.if_icmp .ne 19, 3) := by decide +kernel
theorem d_M_answers_10 : decode b_M_answers 10 = .ok (.aload_n 0, 1) := by decide +kernel
theorem d_M_answers_11 : decode b_M_answers 11 = .ok (.getfield 26, 3) := by decide +kernel
theorem d_M_answers_14 : decode b_M_answers 14 = .ok (.iload_n 1, 1) := by decide +kernel
theorem d_M_answers_15 : decode b_M_answers 15 = .ok (.iaload, 1) := by decide +kernel
theorem d_M_answers_16 : decode b_M_answers 16 = .ok (.ifCond .ne 10, 3) := by decide +kernel
theorem d_M_answers_19 : decode b_M_answers 19 = .ok (.aload_n 0, 1) := by decide +kernel
theorem d_M_answers_20 : decode b_M_answers 20 = .ok (.iconst 0, 1) := by decide +kernel
theorem d_M_answers_21 : decode b_M_answers 21 = .ok (.putfield 86, 3) := by decide +kernel
theorem d_M_answers_24 : decode b_M_answers 24 = .ok (.iconst 1, 1) := by decide +kernel
theorem d_M_answers_25 : decode b_M_answers 25 = .ok (.ireturn, 1) := by decide +kernel
theorem d_M_answers_26 : decode b_M_answers 26 = .ok (.aload_n 0, 1) := by decide +kernel
theorem d_M_answers_27 : decode b_M_answers 27 = .ok (.getfield 20, 3) := by decide +kernel
theorem d_M_answers_30 : decode b_M_answers 30 = .ok (.iload_n 1, 1) := by decide +kernel
theorem d_M_answers_31 : decode b_M_answers 31 = .ok (.iaload, 1) := by decide +kernel
theorem d_M_answers_32 : decode b_M_answers 32 = .ok (.iconst 1, 1) := by decide +kernel
theorem d_M_answers_33 : decode b_M_answers 33 = .ok (.if_icmp .ne 24, 3) := by decide +kernel
theorem d_M_answers_36 : decode b_M_answers 36 = .ok (.aload_n 0, 1) := by decide +kernel
theorem d_M_answers_37 : decode b_M_answers 37 = .ok (.iload_n 1, 1) := by decide +kernel
theorem d_M_answers_38 : decode b_M_answers 38 = .ok (.invokevirtual 82, 3) := by decide +kernel
theorem d_M_answers_41 : decode b_M_answers 41 = .ok (.ifCond .le 16, 3) := by decide +kernel
theorem d_M_answers_44 : decode b_M_answers 44 = .ok (.aload_n 0, 1) := by decide +kernel
theorem d_M_answers_45 : decode b_M_answers 45 = .ok (.iload_n 1, 1) := by decide +kernel
theorem d_M_answers_46 : decode b_M_answers 46 = .ok (.aload_n 0, 1) := by decide +kernel
theorem d_M_answers_47 : decode b_M_answers 47 = .ok (.getfield 53, 3) := by decide +kernel
theorem d_M_answers_50 : decode b_M_answers 50 = .ok (.iload_n 1, 1) := by decide +kernel
theorem d_M_answers_51 : decode b_M_answers 51 = .ok (.iaload, 1) := by decide +kernel
theorem d_M_answers_52 : decode b_M_answers 52 = .ok (.invokevirtual 93, 3) := by decide +kernel
theorem d_M_answers_55 : decode b_M_answers 55 = .ok (.iconst 1, 1) := by decide +kernel
theorem d_M_answers_56 : decode b_M_answers 56 = .ok (.ireturn, 1) := by decide +kernel
theorem d_M_answers_57 : decode b_M_answers 57 = .ok (.aload_n 0, 1) := by decide +kernel
theorem d_M_answers_58 : decode b_M_answers 58 = .ok (.getfield 20, 3) := by decide +kernel
theorem d_M_answers_61 : decode b_M_answers 61 = .ok (.iload_n 1, 1) := by decide +kernel
theorem d_M_answers_62 : decode b_M_answers 62 = .ok (.iaload, 1) := by decide +kernel
theorem d_M_answers_63 : decode b_M_answers 63 = .ok (.iconst 2, 1) := by decide +kernel
theorem d_M_answers_64 : decode b_M_answers 64 = .ok (.if_icmp .ne 107, 3) := by decide +kernel
theorem d_M_answers_67 : decode b_M_answers 67 = .ok (.aload_n 0, 1) := by decide +kernel
theorem d_M_answers_68 : decode b_M_answers 68 = .ok (.getfield 41, 3) := by decide +kernel
theorem d_M_answers_71 : decode b_M_answers 71 = .ok (.iload_n 1, 1) := by decide +kernel
theorem d_M_answers_72 : decode b_M_answers 72 = .ok (.iaload, 1) := by decide +kernel
theorem d_M_answers_73 : decode b_M_answers 73 = .ok (.ifCond .le 98, 3) := by decide +kernel
theorem d_M_answers_76 : decode b_M_answers 76 = .ok (.aload_n 0, 1) := by decide +kernel
theorem d_M_answers_77 : decode b_M_answers 77 = .ok (.aload_n 0, 1) := by decide +kernel
theorem d_M_answers_78 : decode b_M_answers 78 = .ok (.getfield 53, 3) := by decide +kernel
theorem d_M_answers_81 : decode b_M_answers 81 = .ok (.iload_n 1, 1) := by decide +kernel
theorem d_M_answers_82 : decode b_M_answers 82 = .ok (.iaload, 1) := by decide +kernel
theorem d_M_answers_83 : decode b_M_answers 83 = .ok (.aload_n 0, 1) := by decide +kernel
theorem d_M_answers_84 : decode b_M_answers 84 = .ok (.getfield 41, 3) := by decide +kernel
theorem d_M_answers_87 : decode b_M_answers 87 = .ok (.iload_n 1, 1) := by decide +kernel
theorem d_M_answers_88 : decode b_M_answers 88 = .ok (.iaload, 1) := by decide +kernel
theorem d_M_answers_89 : decode b_M_answers 89 = .ok (.if_icmp .ge 12, 3) := by decide +kernel
theorem d_M_answers_92 : decode b_M_answers 92 = .ok (.aload_n 0, 1) := by decide +kernel
theorem d_M_answers_93 : decode b_M_answers 93 = .ok (.getfield 53, 3) := by decide +kernel
theorem d_M_answers_96 : decode b_M_answers 96 = .ok (.iload_n 1, 1) := by decide +kernel
theorem d_M_answers_97 : decode b_M_answers 97 = .ok (.iaload, 1) := by decide +kernel
theorem d_M_answers_98 : decode b_M_answers 98 = .ok (.goto 9, 3) := by decide +kernel
theorem d_M_answers_101 : decode b_M_answers 101 = .ok (.aload_n 0, 1) := by decide +kernel
theorem d_M_answers_102 : decode b_M_answers 102 = .ok (.getfield 41, 3) := by decide +kernel
theorem d_M_answers_105 : decode b_M_answers 105 = .ok (.iload_n 1, 1) := by decide +kernel
theorem d_M_answers_106 : decode b_M_answers 106 = .ok (.iaload, 1) := by decide +kernel
theorem d_M_answers_107 : decode b_M_answers 107 = .ok (.putfield 86, 3) := by decide +kernel
theorem d_M_answers_110 : decode b_M_answers 110 = .ok (.iconst 0, 1) := by decide +kernel
theorem d_M_answers_111 : decode b_M_answers 111 = .ok (.istore_n 2, 1) := by decide +kernel
theorem d_M_answers_112 : decode b_M_answers 112 = .ok (.iload_n 2, 1) := by decide +kernel
theorem d_M_answers_113 : decode b_M_answers 113 = .ok (.aload_n 0, 1) := by decide +kernel
theorem d_M_answers_114 : decode b_M_answers 114 = .ok (.getfield 86, 3) := by decide +kernel
theorem d_M_answers_117 : decode b_M_answers 117 = .ok (.if_icmp .ge 35, 3) := by decide +kernel
theorem d_M_answers_120 : decode b_M_answers 120 = .ok (.aload_n 0, 1) := by decide +kernel
theorem d_M_answers_121 : decode b_M_answers 121 = .ok (.getfield 56, 3) := by decide +kernel
theorem d_M_answers_124 : decode b_M_answers 124 = .ok (.iload_n 2, 1) := by decide +kernel
theorem d_M_answers_125 : decode b_M_answers 125 = .ok (.aload_n 0, 1) := by decide +kernel
theorem d_M_answers_126 : decode b_M_answers 126 = .ok (.getfield 38, 3) := by decide +kernel
theorem d_M_answers_129 : decode b_M_answers 129 = .ok (.bipush 64, 2) := by decide +kernel
theorem d_M_answers_131 : decode b_M_answers 131 = .ok (.iload_n 1, 1) := by decide +kernel
theorem d_M_answers_132 : decode b_M_answers 132 = .ok (.imul, 1) := by decide +kernel
theorem d_M_answers_133 : decode b_M_answers 133 = .ok (.aload_n 0, 1) := by decide +kernel
theorem d_M_answers_134 : decode b_M_answers 134 = .ok (.getfield 41, 3) := by decide +kernel
theorem d_M_answers_137 : decode b_M_answers 137 = .ok (.iload_n 1, 1) := by decide +kernel
theorem d_M_answers_138 : decode b_M_answers 138 = .ok (.iaload, 1) := by decide +kernel
theorem d_M_answers_139 : decode b_M_answers 139 = .ok (.iadd, 1) := by decide +kernel
theorem d_M_answers_140 : decode b_M_answers 140 = .ok (.iconst 1, 1) := by decide +kernel
theorem d_M_answers_141 : decode b_M_answers 141 = .ok (.isub, 1) := by decide +kernel
theorem d_M_answers_142 : decode b_M_answers 142 = .ok (.iload_n 2, 1) := by decide +kernel
theorem d_M_answers_143 : decode b_M_answers 143 = .ok (.isub, 1) := by decide +kernel
theorem d_M_answers_144 : decode b_M_answers 144 = .ok (.iaload, 1) := by decide +kernel
theorem d_M_answers_145 : decode b_M_answers 145 = .ok (.iastore, 1) := by decide +kernel
theorem d_M_answers_146 : decode b_M_answers 146 = .ok (.iinc 2 1, 3) := by decide +kernel
theorem d_M_answers_149 : decode b_M_answers 149 = .ok (.goto (-37), 3) := by decide +kernel
theorem d_M_answers_152 : decode b_M_answers 152 = .ok (.aload_n 0, 1) := by decide +kernel
theorem d_M_answers_153 : decode b_M_answers 153 = .ok (.getfield 41, 3) := by decide +kernel
theorem d_M_answers_156 : decode b_M_answers 156 = .ok (.iload_n 1, 1) := by decide +kernel
theorem d_M_answers_157 : decode b_M_answers 157 = .ok (.aload_n 0, 1) := by decide +kernel
theorem d_M_answers_158 : decode b_M_answers 158 = .ok (.getfield 41, 3) := by decide +kernel
theorem d_M_answers_161 : decode b_M_answers 161 = .ok (.iload_n 1, 1) := by decide +kernel
theorem d_M_answers_162 : decode b_M_answers 162 = .ok (.iaload, 1) := by decide +kernel
theorem d_M_answers_163 : decode b_M_answers 163 = .ok (.aload_n 0, 1) := by decide +kernel
theorem d_M_answers_164 : decode b_M_answers 164 = .ok (.getfield 86, 3) := by decide +kernel
theorem d_M_answers_167 : decode b_M_answers 167 = .ok (.isub, 1) := by decide +kernel
theorem d_M_answers_168 : decode b_M_answers 168 = .ok (.iastore, 1) := by decide +kernel
theorem d_M_answers_169 : decode b_M_answers 169 = .ok (.iconst 1, 1) := by decide +kernel
theorem d_M_answers_170 : decode b_M_answers 170 = .ok (.ireturn, 1) := by decide +kernel
theorem d_M_answers_171 : decode b_M_answers 171 = .ok (.iconst 0, 1) := by decide +kernel
theorem d_M_answers_172 : decode b_M_answers 172 = .ok (.ireturn, 1) := by decide +kernel
theorem d_M_through_0 : decode b_M_through 0 = .ok (.aload_n 0, 1) := by decide +kernel
theorem d_M_through_1 : decode b_M_through 1 = .ok (.getfield 20, 3) := by decide +kernel
theorem d_M_through_4 : decode b_M_through 4 = .ok (.iload_n 1, 1) := by decide +kernel
theorem d_M_through_5 : decode b_M_through 5 = .ok (.iaload, 1) := by decide +kernel
theorem d_M_through_6 : decode b_M_through 6 = .ok (.iconst 1, 1) := by decide +kernel
theorem d_M_through_7 : decode b_M_through 7 = .ok (.if_icmp .ne 27, 3) := by decide +kernel
theorem d_M_through_10 : decode b_M_through 10 = .ok (.aload_n 0, 1) := by decide +kernel
theorem d_M_through_11 : decode b_M_through 11 = .ok (.getfield 53, 3) := by decide +kernel
theorem d_M_through_14 : decode b_M_through 14 = .ok (.iload_n 1, 1) := by decide +kernel
theorem d_M_through_15 : decode b_M_through 15 = .ok (.iaload, 1) := by decide +kernel
theorem d_M_through_16 : decode b_M_through 16 = .ok (.aload_n 0, 1) := by decide +kernel
theorem d_M_through_17 : decode b_M_through 17 = .ok (.getfield 23, 3) := by decide +kernel
theorem d_M_through_20 : decode b_M_through 20 = .ok (.iload_n 1, 1) := by decide +kernel
theorem d_M_through_21 : decode b_M_through 21 = .ok (.iaload, 1) := by decide +kernel
theorem d_M_through_22 : decode b_M_through 22 = .ok (.if_icmp .lt 16, 3) := by decide +kernel
theorem d_M_through_25 : decode b_M_through 25 = .ok (.aload_n 0, 1) := by decide +kernel
theorem d_M_through_26 : decode b_M_through 26 = .ok (.getfield 47, 3) := by decide +kernel
theorem d_M_through_29 : decode b_M_through 29 = .ok (.iload_n 1, 1) := by decide +kernel
theorem d_M_through_30 : decode b_M_through 30 = .ok (.baload, 1) := by decide +kernel
theorem d_M_through_31 : decode b_M_through 31 = .ok (.ifCond .ne 7, 3) := by decide +kernel
theorem d_M_through_34 : decode b_M_through 34 = .ok (.iconst 1, 1) := by decide +kernel
theorem d_M_through_35 : decode b_M_through 35 = .ok (.goto 4, 3) := by decide +kernel
theorem d_M_through_38 : decode b_M_through 38 = .ok (.iconst 0, 1) := by decide +kernel
theorem d_M_through_39 : decode b_M_through 39 = .ok (.ireturn, 1) := by decide +kernel
theorem d_M_below_0 : decode b_M_below 0 = .ok (.aload_n 0, 1) := by decide +kernel
theorem d_M_below_1 : decode b_M_below 1 = .ok (.getfield 53, 3) := by decide +kernel
theorem d_M_below_4 : decode b_M_below 4 = .ok (.iload_n 1, 1) := by decide +kernel
theorem d_M_below_5 : decode b_M_below 5 = .ok (.iaload, 1) := by decide +kernel
theorem d_M_below_6 : decode b_M_below 6 = .ok (.istore_n 2, 1) := by decide +kernel
theorem d_M_below_7 : decode b_M_below 7 = .ok (.aload_n 0, 1) := by decide +kernel
theorem d_M_below_8 : decode b_M_below 8 = .ok (.getfield 20, 3) := by decide +kernel
theorem d_M_below_11 : decode b_M_below 11 = .ok (.iload_n 1, 1) := by decide +kernel
theorem d_M_below_12 : decode b_M_below 12 = .ok (.iaload, 1) := by decide +kernel
theorem d_M_below_13 : decode b_M_below 13 = .ok (.iconst 3, 1) := by decide +kernel
theorem d_M_below_14 : decode b_M_below 14 = .ok (.if_icmp .ne 22, 3) := by decide +kernel
theorem d_M_below_17 : decode b_M_below 17 = .ok (.aload_n 0, 1) := by decide +kernel
theorem d_M_below_18 : decode b_M_below 18 = .ok (.getfield 26, 3) := by decide +kernel
theorem d_M_below_21 : decode b_M_below 21 = .ok (.iload_n 1, 1) := by decide +kernel
theorem d_M_below_22 : decode b_M_below 22 = .ok (.iaload, 1) := by decide +kernel
theorem d_M_below_23 : decode b_M_below 23 = .ok (.iload_n 2, 1) := by decide +kernel
theorem d_M_below_24 : decode b_M_below 24 = .ok (.if_icmp .ge 12, 3) := by decide +kernel
theorem d_M_below_27 : decode b_M_below 27 = .ok (.aload_n 0, 1) := by decide +kernel
theorem d_M_below_28 : decode b_M_below 28 = .ok (.getfield 26, 3) := by decide +kernel
theorem d_M_below_31 : decode b_M_below 31 = .ok (.iload_n 1, 1) := by decide +kernel
theorem d_M_below_32 : decode b_M_below 32 = .ok (.iaload, 1) := by decide +kernel
theorem d_M_below_33 : decode b_M_below 33 = .ok (.goto 21, 3) := by decide +kernel
theorem d_M_below_36 : decode b_M_below 36 = .ok (.aload_n 0, 1) := by decide +kernel
theorem d_M_below_37 : decode b_M_below 37 = .ok (.iload_n 1, 1) := by decide +kernel
theorem d_M_below_38 : decode b_M_below 38 = .ok (.invokevirtual 96, 3) := by decide +kernel
theorem d_M_below_41 : decode b_M_below 41 = .ok (.ifCond .eq 7, 3) := by decide +kernel
theorem d_M_below_44 : decode b_M_below 44 = .ok (.iload_n 2, 1) := by decide +kernel
theorem d_M_below_45 : decode b_M_below 45 = .ok (.goto 9, 3) := by decide +kernel
theorem d_M_below_48 : decode b_M_below 48 = .ok (.aload_n 0, 1) := by decide +kernel
theorem d_M_below_49 : decode b_M_below 49 = .ok (.getfield 23, 3) := by decide +kernel
theorem d_M_below_52 : decode b_M_below 52 = .ok (.iload_n 1, 1) := by decide +kernel
theorem d_M_below_53 : decode b_M_below 53 = .ok (.iaload, 1) := by decide +kernel
theorem d_M_below_54 : decode b_M_below 54 = .ok (.ireturn, 1) := by decide +kernel
theorem d_M_countLines_0 : decode b_M_countLines 0 = .ok (.iconst 0, 1) := by decide +kernel
theorem d_M_countLines_1 : decode b_M_countLines 1 = .ok (.istore_n 2, 1) := by decide +kernel
theorem d_M_countLines_2 : decode b_M_countLines 2 = .ok (.iload_n 2, 1) := by decide +kernel
theorem d_M_countLines_3 : decode b_M_countLines 3 = .ok (.aload_n 0, 1) := by decide +kernel
theorem d_M_countLines_4 : decode b_M_countLines 4 = .ok (.getfield 86, 3) := by decide +kernel
theorem d_M_countLines_7 : decode b_M_countLines 7 = .ok (.if_icmp .ge 97, 3) := by decide +kernel
theorem d_M_countLines_10 : decode b_M_countLines 10 = .ok (.aload_n 0, 1) := by decide +kernel
theorem d_M_countLines_11 : decode b_M_countLines 11 = .ok (.getfield 56, 3) := by decide +kernel
theorem d_M_countLines_14 : decode b_M_countLines 14 = .ok (.iload_n 2, 1) := by decide +kernel
theorem d_M_countLines_15 : decode b_M_countLines 15 = .ok (.iaload, 1) := by decide +kernel
theorem d_M_countLines_16 : decode b_M_countLines 16 = .ok (.bipush 10, 2) := by decide +kernel
theorem d_M_countLines_18 : decode b_M_countLines 18 = .ok (.if_icmp .ne 16, 3) := by decide +kernel
theorem d_M_countLines_21 : decode b_M_countLines 21 = .ok (.aload_n 0, 1) := by decide +kernel
theorem d_M_countLines_22 : decode b_M_countLines 22 = .ok (.getfield 32, 3) := by decide +kernel
theorem d_M_countLines_25 : decode b_M_countLines 25 = .ok (.iload_n 1, 1) := by decide +kernel
theorem d_M_countLines_26 : decode b_M_countLines 26 = .ok (.baload, 1) := by decide +kernel
theorem d_M_countLines_27 : decode b_M_countLines 27 = .ok (.ifCond .eq 7, 3) := by decide +kernel
theorem d_M_countLines_30 : decode b_M_countLines 30 = .ok (.iconst 1, 1) := by decide +kernel
theorem d_M_countLines_31 : decode b_M_countLines 31 = .ok (.goto 4, 3) := by decide +kernel
theorem d_M_countLines_34 : decode b_M_countLines 34 = .ok (.iconst 0, 1) := by decide +kernel
theorem d_M_countLines_35 : decode b_M_countLines 35 = .ok (.istore_n 3, 1) := by decide +kernel
theorem d_M_countLines_36 : decode b_M_countLines 36 = .ok (.aload_n 0, 1) := by decide +kernel
theorem d_M_countLines_37 : decode b_M_countLines 37 = .ok (.getfield 56, 3) := by decide +kernel
theorem d_M_countLines_40 : decode b_M_countLines 40 = .ok (.iload_n 2, 1) := by decide +kernel
theorem d_M_countLines_41 : decode b_M_countLines 41 = .ok (.iaload, 1) := by decide +kernel
theorem d_M_countLines_42 : decode b_M_countLines 42 = .ok (.bipush 10, 2) := by decide +kernel
theorem d_M_countLines_44 : decode b_M_countLines 44 = .ok (.if_icmp .eq 14, 3) := by decide +kernel
theorem d_M_countLines_47 : decode b_M_countLines 47 = .ok (.aload_n 0, 1) := by decide +kernel
theorem d_M_countLines_48 : decode b_M_countLines 48 = .ok (.getfield 56, 3) := by decide +kernel
theorem d_M_countLines_51 : decode b_M_countLines 51 = .ok (.iload_n 2, 1) := by decide +kernel
theorem d_M_countLines_52 : decode b_M_countLines 52 = .ok (.iaload, 1) := by decide +kernel
theorem d_M_countLines_53 : decode b_M_countLines 53 = .ok (.bipush 13, 2) := by decide +kernel
theorem d_M_countLines_55 : decode b_M_countLines 55 = .ok (.if_icmp .ne 21, 3) := by decide +kernel
theorem d_M_countLines_58 : decode b_M_countLines 58 = .ok (.iload_n 3, 1) := by decide +kernel
theorem d_M_countLines_59 : decode b_M_countLines 59 = .ok (.ifCond .ne 17, 3) := by decide +kernel
theorem d_M_countLines_62 : decode b_M_countLines 62 = .ok (.aload_n 0, 1) := by decide +kernel
theorem d_M_countLines_63 : decode b_M_countLines 63 = .ok (.getfield 26, 3) := by decide +kernel
theorem d_M_countLines_66 : decode b_M_countLines 66 = .ok (.iload_n 1, 1) := by decide +kernel
theorem d_M_countLines_67 : decode b_M_countLines 67 = .ok (.aload_n 0, 1) := by decide +kernel
theorem d_M_countLines_68 : decode b_M_countLines 68 = .ok (.getfield 26, 3) := by decide +kernel
theorem d_M_countLines_71 : decode b_M_countLines 71 = .ok (.iload_n 1, 1) := by decide +kernel
theorem d_M_countLines_72 : decode b_M_countLines 72 = .ok (.iaload, 1) := by decide +kernel
theorem d_M_countLines_73 : decode b_M_countLines 73 = .ok (.iconst 1, 1) := by decide +kernel
theorem d_M_countLines_74 : decode b_M_countLines 74 = .ok (.iadd, 1) := by decide +kernel
theorem d_M_countLines_75 : decode b_M_countLines 75 = .ok (.iastore, 1) := by decide +kernel
theorem d_M_countLines_76 : decode b_M_countLines 76 = .ok (.aload_n 0, 1) := by decide +kernel
theorem d_M_countLines_77 : decode b_M_countLines 77 = .ok (.getfield 32, 3) := by decide +kernel
theorem d_M_countLines_80 : decode b_M_countLines 80 = .ok (.iload_n 1, 1) := by decide +kernel
theorem d_M_countLines_81 : decode b_M_countLines 81 = .ok (.aload_n 0, 1) := by decide +kernel
theorem d_M_countLines_82 : decode b_M_countLines 82 = .ok (.getfield 56, 3) := by decide +kernel
theorem d_M_countLines_85 : decode b_M_countLines 85 = .ok (.iload_n 2, 1) := by decide +kernel
theorem d_M_countLines_86 : decode b_M_countLines 86 = .ok (.iaload, 1) := by decide +kernel
theorem d_M_countLines_87 : decode b_M_countLines 87 = .ok (.bipush 13, 2) := by decide +kernel
theorem d_M_countLines_89 : decode b_M_countLines 89 = .ok (.if_icmp .ne 7, 3) := by decide +kernel
theorem d_M_countLines_92 : decode b_M_countLines 92 = .ok (.iconst 1, 1) := by decide +kernel
theorem d_M_countLines_93 : decode b_M_countLines 93 = .ok (.goto 4, 3) := by decide +kernel
theorem d_M_countLines_96 : decode b_M_countLines 96 = .ok (.iconst 0, 1) := by decide +kernel
theorem d_M_countLines_97 : decode b_M_countLines 97 = .ok (.bastore, 1) := by decide +kernel
theorem d_M_countLines_98 : decode b_M_countLines 98 = .ok (.iinc 2 1, 3) := by decide +kernel
theorem d_M_countLines_101 : decode b_M_countLines 101 = .ok (.goto (-99), 3) := by decide +kernel
theorem d_M_countLines_104 : decode b_M_countLines 104 = .ok (.return_, 1) := by decide +kernel
theorem d_M_pass_0 : decode b_M_pass 0 = .ok (.aload_n 0, 1) := by decide +kernel
theorem d_M_pass_1 : decode b_M_pass 1 = .ok (.getfield 20, 3) := by decide +kernel
theorem d_M_pass_4 : decode b_M_pass 4 = .ok (.iload_n 1, 1) := by decide +kernel
theorem d_M_pass_5 : decode b_M_pass 5 = .ok (.iaload, 1) := by decide +kernel
theorem d_M_pass_6 : decode b_M_pass 6 = .ok (.iconst 3, 1) := by decide +kernel
theorem d_M_pass_7 : decode b_M_pass 7 = .ok (.if_icmp .ne 20, 3) := by decide +kernel
theorem d_M_pass_10 : decode b_M_pass 10 = .ok (.aload_n 0, 1) := by decide +kernel
theorem d_M_pass_11 : decode b_M_pass 11 = .ok (.getfield 26, 3) := by decide +kernel
theorem d_M_pass_14 : decode b_M_pass 14 = .ok (.iload_n 1, 1) := by decide +kernel
theorem d_M_pass_15 : decode b_M_pass 15 = .ok (.aload_n 0, 1) := by decide +kernel
theorem d_M_pass_16 : decode b_M_pass 16 = .ok (.getfield 26, 3) := by decide +kernel
theorem d_M_pass_19 : decode b_M_pass 19 = .ok (.iload_n 1, 1) := by decide +kernel
theorem d_M_pass_20 : decode b_M_pass 20 = .ok (.iaload, 1) := by decide +kernel
theorem d_M_pass_21 : decode b_M_pass 21 = .ok (.aload_n 0, 1) := by decide +kernel
theorem d_M_pass_22 : decode b_M_pass 22 = .ok (.getfield 86, 3) := by decide +kernel
theorem d_M_pass_25 : decode b_M_pass 25 = .ok (.isub, 1) := by decide +kernel
theorem d_M_pass_26 : decode b_M_pass 26 = .ok (.iastore, 1) := by decide +kernel
theorem d_M_pass_27 : decode b_M_pass 27 = .ok (.aload_n 0, 1) := by decide +kernel
theorem d_M_pass_28 : decode b_M_pass 28 = .ok (.getfield 20, 3) := by decide +kernel
theorem d_M_pass_31 : decode b_M_pass 31 = .ok (.iload_n 1, 1) := by decide +kernel
theorem d_M_pass_32 : decode b_M_pass 32 = .ok (.iaload, 1) := by decide +kernel
theorem d_M_pass_33 : decode b_M_pass 33 = .ok (.iconst 5, 1) := by decide +kernel
theorem d_M_pass_34 : decode b_M_pass 34 = .ok (.if_icmp .ne 8, 3) := by decide +kernel
theorem d_M_pass_37 : decode b_M_pass 37 = .ok (.aload_n 0, 1) := by decide +kernel
theorem d_M_pass_38 : decode b_M_pass 38 = .ok (.iload_n 1, 1) := by decide +kernel
theorem d_M_pass_39 : decode b_M_pass 39 = .ok (.invokevirtual 100, 3) := by decide +kernel
theorem d_M_pass_42 : decode b_M_pass 42 = .ok (.aload_n 0, 1) := by decide +kernel
theorem d_M_pass_43 : decode b_M_pass 43 = .ok (.getfield 20, 3) := by decide +kernel
theorem d_M_pass_46 : decode b_M_pass 46 = .ok (.iload_n 1, 1) := by decide +kernel
theorem d_M_pass_47 : decode b_M_pass 47 = .ok (.iaload, 1) := by decide +kernel
theorem d_M_pass_48 : decode b_M_pass 48 = .ok (.iconst 4, 1) := by decide +kernel
theorem d_M_pass_49 : decode b_M_pass 49 = .ok (.if_icmp .ne 68, 3) := by decide +kernel
theorem d_M_pass_52 : decode b_M_pass 52 = .ok (.iconst 0, 1) := by decide +kernel
theorem d_M_pass_53 : decode b_M_pass 53 = .ok (.istore_n 2, 1) := by decide +kernel
theorem d_M_pass_54 : decode b_M_pass 54 = .ok (.iload_n 2, 1) := by decide +kernel
theorem d_M_pass_55 : decode b_M_pass 55 = .ok (.aload_n 0, 1) := by decide +kernel
theorem d_M_pass_56 : decode b_M_pass 56 = .ok (.getfield 86, 3) := by decide +kernel
theorem d_M_pass_59 : decode b_M_pass 59 = .ok (.if_icmp .ge 41, 3) := by decide +kernel
theorem d_M_pass_62 : decode b_M_pass 62 = .ok (.aload_n 0, 1) := by decide +kernel
theorem d_M_pass_63 : decode b_M_pass 63 = .ok (.getfield 56, 3) := by decide +kernel
theorem d_M_pass_66 : decode b_M_pass 66 = .ok (.iload_n 2, 1) := by decide +kernel
theorem d_M_pass_67 : decode b_M_pass 67 = .ok (.aload_n 0, 1) := by decide +kernel
theorem d_M_pass_68 : decode b_M_pass 68 = .ok (.getfield 56, 3) := by decide +kernel
theorem d_M_pass_71 : decode b_M_pass 71 = .ok (.iload_n 2, 1) := by decide +kernel
theorem d_M_pass_72 : decode b_M_pass 72 = .ok (.iaload, 1) := by decide +kernel
theorem d_M_pass_73 : decode b_M_pass 73 = .ok (.aload_n 0, 1) := by decide +kernel
theorem d_M_pass_74 : decode b_M_pass 74 = .ok (.getfield 23, 3) := by decide +kernel
theorem d_M_pass_77 : decode b_M_pass 77 = .ok (.iload_n 1, 1) := by decide +kernel
theorem d_M_pass_78 : decode b_M_pass 78 = .ok (.iaload, 1) := by decide +kernel
theorem d_M_pass_79 : decode b_M_pass 79 = .ok (.aload_n 0, 1) := by decide +kernel
theorem d_M_pass_80 : decode b_M_pass 80 = .ok (.getfield 26, 3) := by decide +kernel
theorem d_M_pass_83 : decode b_M_pass 83 = .ok (.iload_n 1, 1) := by decide +kernel
theorem d_M_pass_84 : decode b_M_pass 84 = .ok (.iaload, 1) := by decide +kernel
theorem d_M_pass_85 : decode b_M_pass 85 = .ok (.iadd, 1) := by decide +kernel
theorem d_M_pass_86 : decode b_M_pass 86 = .ok (.iload_n 2, 1) := by decide +kernel
theorem d_M_pass_87 : decode b_M_pass 87 = .ok (.iadd, 1) := by decide +kernel
theorem d_M_pass_88 : decode b_M_pass 88 = .ok (.ixor, 1) := by decide +kernel
theorem d_M_pass_89 : decode b_M_pass 89 = .ok (.sipush 255, 3) := by decide +kernel
theorem d_M_pass_92 : decode b_M_pass 92 = .ok (.iand, 1) := by decide +kernel
theorem d_M_pass_93 : decode b_M_pass 93 = .ok (.iastore, 1) := by decide +kernel
theorem d_M_pass_94 : decode b_M_pass 94 = .ok (.iinc 2 1, 3) := by decide +kernel
theorem d_M_pass_97 : decode b_M_pass 97 = .ok (.goto (-43), 3) := by decide +kernel
theorem d_M_pass_100 : decode b_M_pass 100 = .ok (.aload_n 0, 1) := by decide +kernel
theorem d_M_pass_101 : decode b_M_pass 101 = .ok (.getfield 26, 3) := by decide +kernel
theorem d_M_pass_104 : decode b_M_pass 104 = .ok (.iload_n 1, 1) := by decide +kernel
theorem d_M_pass_105 : decode b_M_pass 105 = .ok (.aload_n 0, 1) := by decide +kernel
theorem d_M_pass_106 : decode b_M_pass 106 = .ok (.getfield 26, 3) := by decide +kernel
theorem d_M_pass_109 : decode b_M_pass 109 = .ok (.iload_n 1, 1) := by decide +kernel
theorem d_M_pass_110 : decode b_M_pass 110 = .ok (.iaload, 1) := by decide +kernel
theorem d_M_pass_111 : decode b_M_pass 111 = .ok (.aload_n 0, 1) := by decide +kernel
theorem d_M_pass_112 : decode b_M_pass 112 = .ok (.getfield 86, 3) := by decide +kernel
theorem d_M_pass_115 : decode b_M_pass 115 = .ok (.iadd, 1) := by decide +kernel
theorem d_M_pass_116 : decode b_M_pass 116 = .ok (.iastore, 1) := by decide +kernel
theorem d_M_pass_117 : decode b_M_pass 117 = .ok (.aload_n 0, 1) := by decide +kernel
theorem d_M_pass_118 : decode b_M_pass 118 = .ok (.iload_n 1, 1) := by decide +kernel
theorem d_M_pass_119 : decode b_M_pass 119 = .ok (.invokevirtual 96, 3) := by decide +kernel
theorem d_M_pass_122 : decode b_M_pass 122 = .ok (.ifCond .ne 78, 3) := by decide +kernel
theorem d_M_pass_125 : decode b_M_pass 125 = .ok (.aload_n 0, 1) := by decide +kernel
theorem d_M_pass_126 : decode b_M_pass 126 = .ok (.getfield 86, 3) := by decide +kernel
theorem d_M_pass_129 : decode b_M_pass 129 = .ok (.ifCond .le 71, 3) := by decide +kernel
theorem d_M_pass_132 : decode b_M_pass 132 = .ok (.iconst 0, 1) := by decide +kernel
theorem d_M_pass_133 : decode b_M_pass 133 = .ok (.istore_n 2, 1) := by decide +kernel
theorem d_M_pass_134 : decode b_M_pass 134 = .ok (.iload_n 2, 1) := by decide +kernel
theorem d_M_pass_135 : decode b_M_pass 135 = .ok (.aload_n 0, 1) := by decide +kernel
theorem d_M_pass_136 : decode b_M_pass 136 = .ok (.getfield 86, 3) := by decide +kernel
theorem d_M_pass_139 : decode b_M_pass 139 = .ok (.if_icmp .ge 33, 3) := by decide +kernel
theorem d_M_pass_142 : decode b_M_pass 142 = .ok (.aload_n 0, 1) := by decide +kernel
theorem d_M_pass_143 : decode b_M_pass 143 = .ok (.getfield 38, 3) := by decide +kernel
theorem d_M_pass_146 : decode b_M_pass 146 = .ok (.bipush 64, 2) := by decide +kernel
theorem d_M_pass_148 : decode b_M_pass 148 = .ok (.iload_n 1, 1) := by decide +kernel
theorem d_M_pass_149 : decode b_M_pass 149 = .ok (.imul, 1) := by decide +kernel
theorem d_M_pass_150 : decode b_M_pass 150 = .ok (.aload_n 0, 1) := by decide +kernel
theorem d_M_pass_151 : decode b_M_pass 151 = .ok (.getfield 41, 3) := by decide +kernel
theorem d_M_pass_154 : decode b_M_pass 154 = .ok (.iload_n 1, 1) := by decide +kernel
theorem d_M_pass_155 : decode b_M_pass 155 = .ok (.iaload, 1) := by decide +kernel
theorem d_M_pass_156 : decode b_M_pass 156 = .ok (.iadd, 1) := by decide +kernel
theorem d_M_pass_157 : decode b_M_pass 157 = .ok (.iload_n 2, 1) := by decide +kernel
theorem d_M_pass_158 : decode b_M_pass 158 = .ok (.iadd, 1) := by decide +kernel
theorem d_M_pass_159 : decode b_M_pass 159 = .ok (.aload_n 0, 1) := by decide +kernel
theorem d_M_pass_160 : decode b_M_pass 160 = .ok (.getfield 56, 3) := by decide +kernel
theorem d_M_pass_163 : decode b_M_pass 163 = .ok (.iload_n 2, 1) := by decide +kernel
theorem d_M_pass_164 : decode b_M_pass 164 = .ok (.iaload, 1) := by decide +kernel
theorem d_M_pass_165 : decode b_M_pass 165 = .ok (.iastore, 1) := by decide +kernel
theorem d_M_pass_166 : decode b_M_pass 166 = .ok (.iinc 2 1, 3) := by decide +kernel
theorem d_M_pass_169 : decode b_M_pass 169 = .ok (.goto (-35), 3) := by decide +kernel
theorem d_M_pass_172 : decode b_M_pass 172 = .ok (.aload_n 0, 1) := by decide +kernel
theorem d_M_pass_173 : decode b_M_pass 173 = .ok (.getfield 41, 3) := by decide +kernel
theorem d_M_pass_176 : decode b_M_pass 176 = .ok (.iload_n 1, 1) := by decide +kernel
theorem d_M_pass_177 : decode b_M_pass 177 = .ok (.aload_n 0, 1) := by decide +kernel
theorem d_M_pass_178 : decode b_M_pass 178 = .ok (.getfield 41, 3) := by decide +kernel
theorem d_M_pass_181 : decode b_M_pass 181 = .ok (.iload_n 1, 1) := by decide +kernel
theorem d_M_pass_182 : decode b_M_pass 182 = .ok (.iaload, 1) := by decide +kernel
theorem d_M_pass_183 : decode b_M_pass 183 = .ok (.aload_n 0, 1) := by decide +kernel
theorem d_M_pass_184 : decode b_M_pass 184 = .ok (.getfield 86, 3) := by decide +kernel
theorem d_M_pass_187 : decode b_M_pass 187 = .ok (.iadd, 1) := by decide +kernel
theorem d_M_pass_188 : decode b_M_pass 188 = .ok (.iastore, 1) := by decide +kernel
theorem d_M_pass_189 : decode b_M_pass 189 = .ok (.aload_n 0, 1) := by decide +kernel
theorem d_M_pass_190 : decode b_M_pass 190 = .ok (.iload_n 1, 1) := by decide +kernel
theorem d_M_pass_191 : decode b_M_pass 191 = .ok (.aload_n 0, 1) := by decide +kernel
theorem d_M_pass_192 : decode b_M_pass 192 = .ok (.getfield 53, 3) := by decide +kernel
theorem d_M_pass_195 : decode b_M_pass 195 = .ok (.iload_n 1, 1) := by decide +kernel
theorem d_M_pass_196 : decode b_M_pass 196 = .ok (.iaload, 1) := by decide +kernel
theorem d_M_pass_197 : decode b_M_pass 197 = .ok (.invokevirtual 93, 3) := by decide +kernel
theorem d_M_pass_200 : decode b_M_pass 200 = .ok (.return_, 1) := by decide +kernel
theorem d_M_request_0 : decode b_M_request 0 = .ok (.aload_n 0, 1) := by decide +kernel
theorem d_M_request_1 : decode b_M_request 1 = .ok (.getfield 79, 3) := by decide +kernel
theorem d_M_request_4 : decode b_M_request 4 = .ok (.iconst 1, 1) := by decide +kernel
theorem d_M_request_5 : decode b_M_request 5 = .ok (.isub, 1) := by decide +kernel
theorem d_M_request_6 : decode b_M_request 6 = .ok (.istore_n 2, 1) := by decide +kernel
theorem d_M_request_7 : decode b_M_request 7 = .ok (.iload_n 1, 1) := by decide +kernel
theorem d_M_request_8 : decode b_M_request 8 = .ok (.istore_n 3, 1) := by decide +kernel
theorem d_M_request_9 : decode b_M_request 9 = .ok (.iconst 0, 1) := by decide +kernel
theorem d_M_request_10 : decode b_M_request 10 = .ok (.istore 4, 2) := by decide +kernel
theorem d_M_request_12 : decode b_M_request 12 = .ok (.iload_n 2, 1) := by decide +kernel
theorem d_M_request_13 : decode b_M_request 13 = .ok (.ifCond .lt 39, 3) := by decide +kernel
theorem d_M_request_16 : decode b_M_request 16 = .ok (.iload 4, 2) := by decide +kernel
theorem d_M_request_18 : decode b_M_request 18 = .ok (.ifCond .ne 34, 3) := by decide +kernel
theorem d_M_request_21 : decode b_M_request 21 = .ok (.aload_n 0, 1) := by decide +kernel
theorem d_M_request_22 : decode b_M_request 22 = .ok (.getfield 53, 3) := by decide +kernel
theorem d_M_request_25 : decode b_M_request 25 = .ok (.iload_n 2, 1) := by decide +kernel
theorem d_M_request_26 : decode b_M_request 26 = .ok (.iload_n 3, 1) := by decide +kernel
theorem d_M_request_27 : decode b_M_request 27 = .ok (.iastore, 1) := by decide +kernel
theorem d_M_request_28 : decode b_M_request 28 = .ok (.aload_n 0, 1) := by decide +kernel
theorem d_M_request_29 : decode b_M_request 29 = .ok (.iload_n 2, 1) := by decide +kernel
theorem d_M_request_30 : decode b_M_request 30 = .ok (.invokevirtual 104, 3) := by decide +kernel
theorem d_M_request_33 : decode b_M_request 33 = .ok (.istore 4, 2) := by decide +kernel
theorem d_M_request_35 : decode b_M_request 35 = .ok (.iload 4, 2) := by decide +kernel
theorem d_M_request_37 : decode b_M_request 37 = .ok (.ifCond .ne (-25), 3) := by decide +kernel
theorem d_M_request_40 : decode b_M_request 40 = .ok (.aload_n 0, 1) := by decide +kernel
theorem d_M_request_41 : decode b_M_request 41 = .ok (.iload_n 2, 1) := by decide +kernel
theorem d_M_request_42 : decode b_M_request 42 = .ok (.invokevirtual 107, 3) := by decide +kernel
theorem d_M_request_45 : decode b_M_request 45 = .ok (.istore_n 3, 1) := by decide +kernel
theorem d_M_request_46 : decode b_M_request 46 = .ok (.iinc 2 (-1), 3) := by decide +kernel
theorem d_M_request_49 : decode b_M_request 49 = .ok (.goto (-37), 3) := by decide +kernel
theorem d_M_request_52 : decode b_M_request 52 = .ok (.iload 4, 2) := by decide +kernel
theorem d_M_request_54 : decode b_M_request 54 = .ok (.ifCond .ne 89, 3) := by decide +kernel
theorem d_M_request_57 : decode b_M_request 57 = .ok (.aload_n 0, 1) := by decide +kernel
theorem d_M_request_58 : decode b_M_request 58 = .ok (.getfield 17, 3) := by decide +kernel
theorem d_M_request_61 : decode b_M_request 61 = .ok (.aload_n 0, 1) := by decide +kernel
theorem d_M_request_62 : decode b_M_request 62 = .ok (.getfield 72, 3) := by decide +kernel
theorem d_M_request_65 : decode b_M_request 65 = .ok (.baload, 1) := by decide +kernel
theorem d_M_request_66 : decode b_M_request 66 = .ok (.ifCond .eq 5, 3) := by decide +kernel
theorem d_M_request_69 : decode b_M_request 69 = .ok (.iconst 0, 1) := by decide +kernel
theorem d_M_request_70 : decode b_M_request 70 = .ok (.ireturn, 1) := by decide +kernel
theorem d_M_request_71 : decode b_M_request 71 = .ok (.aload_n 0, 1) := by decide +kernel
theorem d_M_request_72 : decode b_M_request 72 = .ok (.invokevirtual 110, 3) := by decide +kernel
theorem d_M_request_75 : decode b_M_request 75 = .ok (.istore 5, 2) := by decide +kernel
theorem d_M_request_77 : decode b_M_request 77 = .ok (.aload_n 0, 1) := by decide +kernel
theorem d_M_request_78 : decode b_M_request 78 = .ok (.iload_n 3, 1) := by decide +kernel
theorem d_M_request_79 : decode b_M_request 79 = .ok (.iload 5, 2) := by decide +kernel
theorem d_M_request_81 : decode b_M_request 81 = .ok (.if_icmp .ge 7, 3) := by decide +kernel
theorem d_M_request_84 : decode b_M_request 84 = .ok (.iload_n 3, 1) := by decide +kernel
theorem d_M_request_85 : decode b_M_request 85 = .ok (.goto 5, 3) := by decide +kernel
theorem d_M_request_88 : decode b_M_request 88 = .ok (.iload 5, 2) := by decide +kernel
theorem d_M_request_90 : decode b_M_request 90 = .ok (.putfield 86, 3) := by decide +kernel
theorem d_M_request_93 : decode b_M_request 93 = .ok (.iconst 0, 1) := by decide +kernel
theorem d_M_request_94 : decode b_M_request 94 = .ok (.istore 6, 2) := by decide +kernel
theorem d_M_request_96 : decode b_M_request 96 = .ok (.iload 6, 2) := by decide +kernel
theorem d_M_request_98 : decode b_M_request 98 = .ok (.aload_n 0, 1) := by decide +kernel
theorem d_M_request_99 : decode b_M_request 99 = .ok (.getfield 86, 3) := by decide +kernel
theorem d_M_request_102 : decode b_M_request 102 = .ok (.if_icmp .ge 28, 3) := by decide +kernel
theorem d_M_request_105 : decode b_M_request 105 = .ok (.aload_n 0, 1) := by decide +kernel
theorem d_M_request_106 : decode b_M_request 106 = .ok (.getfield 56, 3) := by decide +kernel
theorem d_M_request_109 : decode b_M_request 109 = .ok (.iload 6, 2) := by decide +kernel
theorem d_M_request_111 : decode b_M_request 111 = .ok (.aload_n 0, 1) := by decide +kernel
theorem d_M_request_112 : decode b_M_request 112 = .ok (.getfield 7, 3) := by decide +kernel
theorem d_M_request_115 : decode b_M_request 115 = .ok (.aload_n 0, 1) := by decide +kernel
theorem d_M_request_116 : decode b_M_request 116 = .ok (.getfield 72, 3) := by decide +kernel
theorem d_M_request_119 : decode b_M_request 119 = .ok (.iload 6, 2) := by decide +kernel
theorem d_M_request_121 : decode b_M_request 121 = .ok (.iadd, 1) := by decide +kernel
theorem d_M_request_122 : decode b_M_request 122 = .ok (.iaload, 1) := by decide +kernel
theorem d_M_request_123 : decode b_M_request 123 = .ok (.iastore, 1) := by decide +kernel
theorem d_M_request_124 : decode b_M_request 124 = .ok (.iinc 6 1, 3) := by decide +kernel
theorem d_M_request_127 : decode b_M_request 127 = .ok (.goto (-31), 3) := by decide +kernel
theorem d_M_request_130 : decode b_M_request 130 = .ok (.aload_n 0, 1) := by decide +kernel
theorem d_M_request_131 : decode b_M_request 131 = .ok (.aload_n 0, 1) := by decide +kernel
theorem d_M_request_132 : decode b_M_request 132 = .ok (.getfield 72, 3) := by decide +kernel
theorem d_M_request_135 : decode b_M_request 135 = .ok (.aload_n 0, 1) := by decide +kernel
theorem d_M_request_136 : decode b_M_request 136 = .ok (.getfield 86, 3) := by decide +kernel
theorem d_M_request_139 : decode b_M_request 139 = .ok (.iadd, 1) := by decide +kernel
theorem d_M_request_140 : decode b_M_request 140 = .ok (.putfield 72, 3) := by decide +kernel
theorem d_M_request_143 : decode b_M_request 143 = .ok (.iload_n 2, 1) := by decide +kernel
theorem d_M_request_144 : decode b_M_request 144 = .ok (.iconst 1, 1) := by decide +kernel
theorem d_M_request_145 : decode b_M_request 145 = .ok (.iadd, 1) := by decide +kernel
theorem d_M_request_146 : decode b_M_request 146 = .ok (.istore 5, 2) := by decide +kernel
theorem d_M_request_148 : decode b_M_request 148 = .ok (.iload 5, 2) := by decide +kernel
theorem d_M_request_150 : decode b_M_request 150 = .ok (.aload_n 0, 1) := by decide +kernel
theorem d_M_request_151 : decode b_M_request 151 = .ok (.getfield 79, 3) := by decide +kernel
theorem d_M_request_154 : decode b_M_request 154 = .ok (.if_icmp .ge 15, 3) := by decide +kernel
theorem d_M_request_157 : decode b_M_request 157 = .ok (.aload_n 0, 1) := by decide +kernel
theorem d_M_request_158 : decode b_M_request 158 = .ok (.iload 5, 2) := by decide +kernel
theorem d_M_request_160 : decode b_M_request 160 = .ok (.invokevirtual 114, 3) := by decide +kernel
theorem d_M_request_163 : decode b_M_request 163 = .ok (.iinc 5 1, 3) := by decide +kernel
theorem d_M_request_166 : decode b_M_request 166 = .ok (.goto (-18), 3) := by decide +kernel
theorem d_M_request_169 : decode b_M_request 169 = .ok (.iconst 1, 1) := by decide +kernel
theorem d_M_request_170 : decode b_M_request 170 = .ok (.ireturn, 1) := by decide +kernel
theorem d_M_reads_0 : decode b_M_reads 0 = .ok (.aload_n 0, 1) := by decide +kernel
theorem d_M_reads_1 : decode b_M_reads 1 = .ok (.iload_n 1, 1) := by decide +kernel
theorem d_M_reads_2 : decode b_M_reads 2 = .ok (.invokevirtual 117, 3) := by decide +kernel
theorem d_M_reads_5 : decode b_M_reads 5 = .ok (.ifCond .ne 5, 3) := by decide +kernel
theorem d_M_reads_8 : decode b_M_reads 8 = .ok (.iconst 0, 1) := by decide +kernel
theorem d_M_reads_9 : decode b_M_reads 9 = .ok (.ireturn, 1) := by decide +kernel
theorem d_M_reads_10 : decode b_M_reads 10 = .ok (.aload_n 0, 1) := by decide +kernel
theorem d_M_reads_11 : decode b_M_reads 11 = .ok (.getfield 120, 3) := by decide +kernel
theorem d_M_reads_14 : decode b_M_reads 14 = .ok (.ifCond .eq 10, 3) := by decide +kernel
theorem d_M_reads_17 : decode b_M_reads 17 = .ok (.aload_n 0, 1) := by decide +kernel
theorem d_M_reads_18 : decode b_M_reads 18 = .ok (.getfield 86, 3) := by decide +kernel
theorem d_M_reads_21 : decode b_M_reads 21 = .ok (.ifCond .ne 5, 3) := by decide +kernel
theorem d_M_reads_24 : decode b_M_reads 24 = .ok (.iconst 1, 1) := by decide +kernel
theorem d_M_reads_25 : decode b_M_reads 25 = .ok (.ireturn, 1) := by decide +kernel
theorem d_M_reads_26 : decode b_M_reads 26 = .ok (.aload_n 0, 1) := by decide +kernel
theorem d_M_reads_27 : decode b_M_reads 27 = .ok (.iconst 0, 1) := by decide +kernel
theorem d_M_reads_28 : decode b_M_reads 28 = .ok (.putfield 120, 3) := by decide +kernel
theorem d_M_reads_31 : decode b_M_reads 31 = .ok (.aload_n 0, 1) := by decide +kernel
theorem d_M_reads_32 : decode b_M_reads 32 = .ok (.getfield 56, 3) := by decide +kernel
theorem d_M_reads_35 : decode b_M_reads 35 = .ok (.iconst 0, 1) := by decide +kernel
theorem d_M_reads_36 : decode b_M_reads 36 = .ok (.iaload, 1) := by decide +kernel
theorem d_M_reads_37 : decode b_M_reads 37 = .ok (.bipush 10, 2) := by decide +kernel
theorem d_M_reads_39 : decode b_M_reads 39 = .ok (.if_icmp .eq 5, 3) := by decide +kernel
theorem d_M_reads_42 : decode b_M_reads 42 = .ok (.iconst 1, 1) := by decide +kernel
theorem d_M_reads_43 : decode b_M_reads 43 = .ok (.ireturn, 1) := by decide +kernel
theorem d_M_reads_44 : decode b_M_reads 44 = .ok (.aload_n 0, 1) := by decide +kernel
theorem d_M_reads_45 : decode b_M_reads 45 = .ok (.getfield 86, 3) := by decide +kernel
theorem d_M_reads_48 : decode b_M_reads 48 = .ok (.iconst 1, 1) := by decide +kernel
theorem d_M_reads_49 : decode b_M_reads 49 = .ok (.if_icmp .ne 9, 3) := by decide +kernel
theorem d_M_reads_52 : decode b_M_reads 52 = .ok (.aload_n 0, 1) := by decide +kernel
theorem d_M_reads_53 : decode b_M_reads 53 = .ok (.iload_n 1, 1) := by decide +kernel
theorem d_M_reads_54 : decode b_M_reads 54 = .ok (.invokevirtual 117, 3) := by decide +kernel
theorem d_M_reads_57 : decode b_M_reads 57 = .ok (.ireturn, 1) := by decide +kernel
theorem d_M_reads_58 : decode b_M_reads 58 = .ok (.aload_n 0, 1) := by decide +kernel
theorem d_M_reads_59 : decode b_M_reads 59 = .ok (.dup, 1) := by decide +kernel
theorem d_M_reads_60 : decode b_M_reads 60 = .ok (.getfield 86, 3) := by decide +kernel
theorem d_M_reads_63 : decode b_M_reads 63 = .ok (.iconst 1, 1) := by decide +kernel
theorem d_M_reads_64 : decode b_M_reads 64 = .ok (.isub, 1) := by decide +kernel
theorem d_M_reads_65 : decode b_M_reads 65 = .ok (.putfield 86, 3) := by decide +kernel
theorem d_M_reads_68 : decode b_M_reads 68 = .ok (.iconst 0, 1) := by decide +kernel
theorem d_M_reads_69 : decode b_M_reads 69 = .ok (.istore_n 2, 1) := by decide +kernel
theorem d_M_reads_70 : decode b_M_reads 70 = .ok (.iload_n 2, 1) := by decide +kernel
theorem d_M_reads_71 : decode b_M_reads 71 = .ok (.aload_n 0, 1) := by decide +kernel
theorem d_M_reads_72 : decode b_M_reads 72 = .ok (.getfield 86, 3) := by decide +kernel
theorem d_M_reads_75 : decode b_M_reads 75 = .ok (.if_icmp .ge 23, 3) := by decide +kernel
theorem d_M_reads_78 : decode b_M_reads 78 = .ok (.aload_n 0, 1) := by decide +kernel
theorem d_M_reads_79 : decode b_M_reads 79 = .ok (.getfield 56, 3) := by decide +kernel
theorem d_M_reads_82 : decode b_M_reads 82 = .ok (.iload_n 2, 1) := by decide +kernel
theorem d_M_reads_83 : decode b_M_reads 83 = .ok (.aload_n 0, 1) := by decide +kernel
theorem d_M_reads_84 : decode b_M_reads 84 = .ok (.getfield 56, 3) := by decide +kernel
theorem d_M_reads_87 : decode b_M_reads 87 = .ok (.iload_n 2, 1) := by decide +kernel
theorem d_M_reads_88 : decode b_M_reads 88 = .ok (.iconst 1, 1) := by decide +kernel
theorem d_M_reads_89 : decode b_M_reads 89 = .ok (.iadd, 1) := by decide +kernel
theorem d_M_reads_90 : decode b_M_reads 90 = .ok (.iaload, 1) := by decide +kernel
theorem d_M_reads_91 : decode b_M_reads 91 = .ok (.iastore, 1) := by decide +kernel
theorem d_M_reads_92 : decode b_M_reads 92 = .ok (.iinc 2 1, 3) := by decide +kernel
theorem d_M_reads_95 : decode b_M_reads 95 = .ok (.goto (-25), 3) := by decide +kernel
theorem d_M_reads_98 : decode b_M_reads 98 = .ok (.iconst 1, 1) := by decide +kernel
theorem d_M_reads_99 : decode b_M_reads 99 = .ok (.ireturn, 1) := by decide +kernel
theorem md_M_answers : md_Ok y_M_answers (.code y_M_answers b_M_answers 3 (some .boolean)) 3 := ⟨wd_832, wd_5, ⟨by decide, by decide⟩, Or.inl ⟨_, _, rfl⟩⟩
theorem ml_M_answers : (parseMethodDescriptor y_M_answers.desc).map (fun d => d.parameters.length) = some 1 := by decide +kernel
theorem md_M_through : md_Ok y_M_through (.code y_M_through b_M_through 2 (some .boolean)) 2 := ⟨wd_852, wd_5, ⟨by decide, by decide⟩, Or.inl ⟨_, _, rfl⟩⟩
theorem ml_M_through : (parseMethodDescriptor y_M_through.desc).map (fun d => d.parameters.length) = some 1 := by decide +kernel
theorem md_M_below : md_Ok y_M_below (.code y_M_below b_M_below 3 (some .int)) 3 := ⟨wd_848, wd_5, ⟨by decide, by decide⟩, Or.inl ⟨_, _, rfl⟩⟩
theorem ml_M_below : (parseMethodDescriptor y_M_below.desc).map (fun d => d.parameters.length) = some 1 := by decide +kernel
theorem md_M_countLines : md_Ok y_M_countLines (.code y_M_countLines b_M_countLines 4 none) 4 := ⟨wd_864, wd_5, ⟨by decide, by decide⟩, Or.inl ⟨_, _, rfl⟩⟩
theorem ml_M_countLines : (parseMethodDescriptor y_M_countLines.desc).map (fun d => d.parameters.length) = some 1 := by decide +kernel
theorem md_M_pass : md_Ok y_M_pass (.code y_M_pass b_M_pass 3 none) 3 := ⟨wd_860, wd_5, ⟨by decide, by decide⟩, Or.inl ⟨_, _, rfl⟩⟩
theorem ml_M_pass : (parseMethodDescriptor y_M_pass.desc).map (fun d => d.parameters.length) = some 1 := by decide +kernel
theorem md_M_request : md_Ok y_M_request (.code y_M_request b_M_request 7 (some .boolean)) 7 := ⟨wd_828, wd_5, ⟨by decide, by decide⟩, Or.inl ⟨_, _, rfl⟩⟩
theorem ml_M_request : (parseMethodDescriptor y_M_request.desc).map (fun d => d.parameters.length) = some 1 := by decide +kernel
theorem fl_M_120 : fl_Ok "StreamTowerModel" 120 "StreamTowerModel" "leaves" "Z" "StreamTowerModel" [8] 22 false (.boolean) := ⟨wd_734, by decide +kernel, Or.inl rfl, fun t ht => by obtain rfl := List.mem_singleton.mp ht; exact ⟨_, _, _, rfl, by decide, rfl⟩⟩
theorem md_M_reads : md_Ok y_M_reads (.code y_M_reads b_M_reads 3 (some .boolean)) 3 := ⟨wd_824, wd_5, ⟨by decide, by decide⟩, Or.inl ⟨_, _, rfl⟩⟩
theorem ml_M_reads : (parseMethodDescriptor y_M_reads.desc).map (fun d => d.parameters.length) = some 1 := by decide +kernel
def f_M_answers_b171 (h0 : Hs_t) : Rs_t := re_Z 0 h0
def f_M_answers_b112 : Nat → Nat → Int32 → Int32 → Hs_t → Rs_t
  | 0, _, _, _, _ => none
  | n + 1, t0, x1, x2, h0 => (fd_I [8] 20 h0 t0).bind fun v22 => if v22 ≤ x2 then ((fd_A [8] 14 h0 t0).bind fun v23 => (fd_A [8] 14 h0 t0).bind fun v24 => (ar_I h0 v24 x1).bind fun v25 => (fd_I [8] 20 h0 t0).bind fun v26 => (as_I h0 v23 x1 (v25 - v26)).bind fun h5 => re_Z 1 h5) else ((fd_A [8] 19 h0 t0).bind fun v27 => (fd_A [8] 13 h0 t0).bind fun v28 => (fd_A [8] 14 h0 t0).bind fun v29 => (ar_I h0 v29 x1).bind fun v30 => (ar_I h0 v28 ((((64 * x1) + v30) - 1) - x2)).bind fun v31 => (as_I h0 v27 x2 v31).bind fun h6 => (f_M_answers_b112 n) t0 x1 (x2 + 1) h6)
def f_M_answers_b107 (t0 : Nat) (x1 : Int32) (sv0 : Int32) (sv1 : Nat) (h0 : Hs_t) : Rs_t := (pt_V [8] 20 h0 sv1 (.int sv0)).bind fun h4 => f_M_answers_b112 fu_N t0 x1 0 h4
def f_M_answers_b57 (t0 : Nat) (x1 : Int32) (h0 : Hs_t) : Rs_t := (fd_A [8] 7 h0 t0).bind fun v10 => (ar_I h0 v10 x1).bind fun v11 => if v11 = 2 then ((fd_A [8] 14 h0 t0).bind fun v12 => (ar_I h0 v12 x1).bind fun v13 => if v13 ≤ 0 then (f_M_answers_b171 h0) else ((fd_A [8] 18 h0 t0).bind fun v14 => (ar_I h0 v14 x1).bind fun v15 => (fd_A [8] 14 h0 t0).bind fun v16 => (ar_I h0 v16 x1).bind fun v17 => if v17 ≤ v15 then ((fd_A [8] 14 h0 t0).bind fun v18 => (ar_I h0 v18 x1).bind fun v19 => f_M_answers_b107 t0 x1 v19 t0 h0) else ((fd_A [8] 18 h0 t0).bind fun v20 => (ar_I h0 v20 x1).bind fun v21 => f_M_answers_b107 t0 x1 v21 t0 h0))) else (f_M_answers_b171 h0)
def f_M_answers_b26 (t0 : Nat) (x1 : Int32) (h0 : Hs_t) : Rs_t := (fd_A [8] 7 h0 t0).bind fun v5 => (ar_I h0 v5 x1).bind fun v6 => if v6 = 1 then ((ck_T [8] h0 t0).bind fun _ => bd_I (f_M_toGive t0 x1 h0) (fun v7 h2 => if v7 ≤ 0 then (f_M_answers_b57 t0 x1 h2) else ((fd_A [8] 18 h2 t0).bind fun v8 => (ar_I h2 v8 x1).bind fun v9 => (ck_T [8] h2 t0).bind fun _ => bd_V (f_M_give t0 x1 v9 h2) (fun h3 => re_Z 1 h3)))) else (f_M_answers_b57 t0 x1 h0)
def f_M_answers (t0 : Nat) (x1 : Int32) (h0 : Hs_t) : Rs_t := (fd_A [8] 7 h0 t0).bind fun v1 => (ar_I h0 v1 x1).bind fun v2 => if v2 = 3 then ((fd_A [8] 9 h0 t0).bind fun v3 => (ar_I h0 v3 x1).bind fun v4 => if v4 = 0 then ((pt_V [8] 20 h0 t0 (.int 0)).bind fun h1 => re_Z 1 h1) else (f_M_answers_b26 t0 x1 h0)) else (f_M_answers_b26 t0 x1 h0)
set_option maxRecDepth 100000 in
set_option maxHeartbeats 4000000 in
theorem k_M_answers_b171 {p : Program} {l : Launch} {e : Env} {s : State} {m : MethodId} {args : Array Value} {below : List Frame} {meth : Method} {c : Code} {s0 : State} {A0 : Array Value} {G : Gx_t} {r : Outcome × Hs_t} {rm : Room} (hc : Cx_t p s m meth c s0 A0 l G y_M_answers b_M_answers 3 (some .boolean) []) (hrm : rm_Ok 0 0 2 46 rm) : ∀  (h0 : Hs_t) (H : Heap) (locs : List Loc) (ls : Array Slot), Rp_h G s0.heap h0 H → Lo_k s0 locs → lv_has ls 3 [] → f_M_answers_b171  h0 = some r → W p l e rm s m args below meth c H locs 0 0 (xq_MQ G s0 below r s rm.cells rm.slots) (F0 m 171 ls []) := by
  have hx := hc.x
  have hb := hc.b
  obtain ⟨hm1, hm2, hm3, hm4⟩ := id hrm
  intro  h0 H locs ls hR hLo hl heq
  unfold f_M_answers_b171 at heq
  refine lv_iconst (v := 0) hx hb d_M_answers_171 (by decide) ?_
  exact x_zret hc hR hLo ⟨by omega, by omega⟩ heq d_M_answers_172
set_option maxRecDepth 100000 in
set_option maxHeartbeats 4000000 in
theorem k_M_answers_b112 {p : Program} {l : Launch} {e : Env} {s : State} {m : MethodId} {args : Array Value} {below : List Frame} {meth : Method} {c : Code} {s0 : State} {A0 : Array Value} {G : Gx_t} {r : Outcome × Hs_t} {rm : Room} (hc : Cx_t p s m meth c s0 A0 l G y_M_answers b_M_answers 3 (some .boolean) []) (hrm : rm_Ok 0 0 2 46 rm) : ∀ (n : Nat) (t0 : Nat) (x1 : Int32) (x2 : Int32) (h0 : Hs_t) (H : Heap) (locs : List Loc) (ls : Array Slot), Rp_h G s0.heap h0 H → Lo_k s0 locs → lv_has ls 3 [(0, .ref t0), (1, .int x1), (2, .int x2)] → f_M_answers_b112 n t0 x1 x2 h0 = some r → W p l e rm s m args below meth c H locs 0 0 (xq_MQ G s0 below r s rm.cells rm.slots) (F0 m 112 ls []) := by
  have hx := hc.x
  have hb := hc.b
  obtain ⟨hm1, hm2, hm3, hm4⟩ := id hrm
  intro n
  induction n with
  | zero =>
    intro t0 x1 x2 h0 H locs ls hR hLo hl heq
    unfold f_M_answers_b112 at heq
    cases heq
  | succ n hr112 =>
    intro t0 x1 x2 h0 H locs ls hR hLo hl heq
    unfold f_M_answers_b112 at heq
    refine lv_iload_n hx hb d_M_answers_112 rfl (lv_at hl 2 rfl) ?_
    refine lv_aload_n hx hb d_M_answers_113 rfl (lv_at hl 0 rfl) ?_
    refine x_gI hc hR fl_M_86 heq d_M_answers_114 (fun v22 heq => ?_)
    refine lv_icmp_ge (tgt := 152) hx hb d_M_answers_117 rfl (fun hq => ?_) (fun hq => ?_)
    · rw [if_pos hq] at heq
      refine lv_aload_n hx hb d_M_answers_152 rfl (lv_at hl 0 rfl) ?_
      refine x_gA hc hR fl_M_41 heq d_M_answers_153 (fun v23 heq => ?_)
      refine lv_iload_n hx hb d_M_answers_156 rfl (lv_at hl 1 rfl) ?_
      refine lv_aload_n hx hb d_M_answers_157 rfl (lv_at hl 0 rfl) ?_
      refine x_gA hc hR fl_M_41 heq d_M_answers_158 (fun v24 heq => ?_)
      refine lv_iload_n hx hb d_M_answers_161 rfl (lv_at hl 1 rfl) ?_
      refine x_aI hc hR heq d_M_answers_162 (fun v25 heq => ?_)
      refine lv_aload_n hx hb d_M_answers_163 rfl (lv_at hl 0 rfl) ?_
      refine x_gI hc hR fl_M_86 heq d_M_answers_164 (fun v26 heq => ?_)
      refine lv_isub hx hb d_M_answers_167 ?_
      refine x_sI hc hR hLo heq d_M_answers_168 (fun h5 H locs hR hLo heq => ?_)
      refine lv_iconst (v := 1) hx hb d_M_answers_169 (by decide) ?_
      exact x_zret hc hR hLo ⟨by omega, by omega⟩ heq d_M_answers_170
    · rw [if_neg hq] at heq
      refine lv_aload_n hx hb d_M_answers_120 rfl (lv_at hl 0 rfl) ?_
      refine x_gA hc hR fl_M_56 heq d_M_answers_121 (fun v27 heq => ?_)
      refine lv_iload_n hx hb d_M_answers_124 rfl (lv_at hl 2 rfl) ?_
      refine lv_aload_n hx hb d_M_answers_125 rfl (lv_at hl 0 rfl) ?_
      refine x_gA hc hR fl_M_38 heq d_M_answers_126 (fun v28 heq => ?_)
      refine lv_bipush (v := 64) hx hb d_M_answers_129 (by decide) ?_
      refine lv_iload_n hx hb d_M_answers_131 rfl (lv_at hl 1 rfl) ?_
      refine lv_imul hx hb d_M_answers_132 ?_
      refine lv_aload_n hx hb d_M_answers_133 rfl (lv_at hl 0 rfl) ?_
      refine x_gA hc hR fl_M_41 heq d_M_answers_134 (fun v29 heq => ?_)
      refine lv_iload_n hx hb d_M_answers_137 rfl (lv_at hl 1 rfl) ?_
      refine x_aI hc hR heq d_M_answers_138 (fun v30 heq => ?_)
      refine lv_iadd hx hb d_M_answers_139 ?_
      refine lv_iconst (v := 1) hx hb d_M_answers_140 (by decide) ?_
      refine lv_isub hx hb d_M_answers_141 ?_
      refine lv_iload_n hx hb d_M_answers_142 rfl (lv_at hl 2 rfl) ?_
      refine lv_isub hx hb d_M_answers_143 ?_
      refine x_aI hc hR heq d_M_answers_144 (fun v31 heq => ?_)
      refine x_sI hc hR hLo heq d_M_answers_145 (fun h6 H locs hR hLo heq => ?_)
      refine lv_iinc (k := 2) (v := (x2 + 1)) (lv' := [(2, .int (x2 + 1)), (0, .ref t0), (1, .int x1)]) hx hb d_M_answers_146 hl rfl rfl (by decide) rfl (fun ls hl => ?_)
      refine lv_goto (tgt := 112) hx hb d_M_answers_149 rfl ?_
      refine W.widen (k := 0) (n := 0) (by omega) (by omega) ?_
      exact hr112 t0 x1 (x2 + 1) h6 H locs ls hR hLo (lv_sub hl [1, 2, 0] rfl) heq
set_option maxRecDepth 100000 in
set_option maxHeartbeats 4000000 in
theorem k_M_answers_b107 {p : Program} {l : Launch} {e : Env} {s : State} {m : MethodId} {args : Array Value} {below : List Frame} {meth : Method} {c : Code} {s0 : State} {A0 : Array Value} {G : Gx_t} {r : Outcome × Hs_t} {rm : Room} (hc : Cx_t p s m meth c s0 A0 l G y_M_answers b_M_answers 3 (some .boolean) []) (hrm : rm_Ok 0 0 2 46 rm) : ∀ (t0 : Nat) (x1 : Int32) (sv0 : Int32) (sv1 : Nat) (h0 : Hs_t) (H : Heap) (locs : List Loc) (ls : Array Slot), Rp_h G s0.heap h0 H → Lo_k s0 locs → lv_has ls 3 [(0, .ref t0), (1, .int x1)] → f_M_answers_b107 t0 x1 sv0 sv1 h0 = some r → W p l e rm s m args below meth c H locs 0 0 (xq_MQ G s0 below r s rm.cells rm.slots) (F0 m 107 ls [.int sv0, .ref sv1]) := by
  have hx := hc.x
  have hb := hc.b
  obtain ⟨hm1, hm2, hm3, hm4⟩ := id hrm
  intro t0 x1 sv0 sv1 h0 H locs ls hR hLo hl heq
  unfold f_M_answers_b107 at heq
  refine x_pV hc hR hLo fl_M_86 (Or.inl rfl) rfl rfl heq d_M_answers_107 (fun h4 H locs hR hLo heq => ?_)
  refine lv_iconst (v := 0) hx hb d_M_answers_110 (by decide) ?_
  refine lv_istore_n (lv' := [(2, .int 0), (0, .ref t0), (1, .int x1)]) hx hb d_M_answers_111 rfl hl (by decide) rfl (fun ls hl => ?_)
  refine W.widen (k := 0) (n := 0) (by omega) (by omega) ?_
  exact k_M_answers_b112 hc hrm fu_N t0 x1 0 h4 H locs ls hR hLo (lv_sub hl [1, 2, 0] rfl) heq
set_option maxRecDepth 100000 in
set_option maxHeartbeats 4000000 in
theorem k_M_answers_b57 {p : Program} {l : Launch} {e : Env} {s : State} {m : MethodId} {args : Array Value} {below : List Frame} {meth : Method} {c : Code} {s0 : State} {A0 : Array Value} {G : Gx_t} {r : Outcome × Hs_t} {rm : Room} (hc : Cx_t p s m meth c s0 A0 l G y_M_answers b_M_answers 3 (some .boolean) []) (hrm : rm_Ok 0 0 2 46 rm) : ∀ (t0 : Nat) (x1 : Int32) (h0 : Hs_t) (H : Heap) (locs : List Loc) (ls : Array Slot), Rp_h G s0.heap h0 H → Lo_k s0 locs → lv_has ls 3 [(0, .ref t0), (1, .int x1)] → f_M_answers_b57 t0 x1 h0 = some r → W p l e rm s m args below meth c H locs 0 0 (xq_MQ G s0 below r s rm.cells rm.slots) (F0 m 57 ls []) := by
  have hx := hc.x
  have hb := hc.b
  obtain ⟨hm1, hm2, hm3, hm4⟩ := id hrm
  intro t0 x1 h0 H locs ls hR hLo hl heq
  unfold f_M_answers_b57 at heq
  refine lv_aload_n hx hb d_M_answers_57 rfl (lv_at hl 0 rfl) ?_
  refine x_gA hc hR fl_M_20 heq d_M_answers_58 (fun v10 heq => ?_)
  refine lv_iload_n hx hb d_M_answers_61 rfl (lv_at hl 1 rfl) ?_
  refine x_aI hc hR heq d_M_answers_62 (fun v11 heq => ?_)
  refine lv_iconst (v := 2) hx hb d_M_answers_63 (by decide) ?_
  refine lv_icmp_ne (tgt := 171) hx hb d_M_answers_64 rfl (fun hq => ?_) (fun hq => ?_)
  · rw [if_neg hq] at heq
    refine W.widen (k := 0) (n := 0) (by omega) (by omega) ?_
    exact k_M_answers_b171 hc hrm h0 H locs ls hR hLo (lv_sub hl [] rfl) heq
  · rw [if_pos hq] at heq
    refine lv_aload_n hx hb d_M_answers_67 rfl (lv_at hl 0 rfl) ?_
    refine x_gA hc hR fl_M_41 heq d_M_answers_68 (fun v12 heq => ?_)
    refine lv_iload_n hx hb d_M_answers_71 rfl (lv_at hl 1 rfl) ?_
    refine x_aI hc hR heq d_M_answers_72 (fun v13 heq => ?_)
    refine lv_if_le (tgt := 171) hx hb d_M_answers_73 rfl (fun hq => ?_) (fun hq => ?_)
    · rw [if_pos hq] at heq
      refine W.widen (k := 0) (n := 0) (by omega) (by omega) ?_
      exact k_M_answers_b171 hc hrm h0 H locs ls hR hLo (lv_sub hl [] rfl) heq
    · rw [if_neg hq] at heq
      refine lv_aload_n hx hb d_M_answers_76 rfl (lv_at hl 0 rfl) ?_
      refine lv_aload_n hx hb d_M_answers_77 rfl (lv_at hl 0 rfl) ?_
      refine x_gA hc hR fl_M_53 heq d_M_answers_78 (fun v14 heq => ?_)
      refine lv_iload_n hx hb d_M_answers_81 rfl (lv_at hl 1 rfl) ?_
      refine x_aI hc hR heq d_M_answers_82 (fun v15 heq => ?_)
      refine lv_aload_n hx hb d_M_answers_83 rfl (lv_at hl 0 rfl) ?_
      refine x_gA hc hR fl_M_41 heq d_M_answers_84 (fun v16 heq => ?_)
      refine lv_iload_n hx hb d_M_answers_87 rfl (lv_at hl 1 rfl) ?_
      refine x_aI hc hR heq d_M_answers_88 (fun v17 heq => ?_)
      refine lv_icmp_ge (tgt := 101) hx hb d_M_answers_89 rfl (fun hq => ?_) (fun hq => ?_)
      · rw [if_pos hq] at heq
        refine lv_aload_n hx hb d_M_answers_101 rfl (lv_at hl 0 rfl) ?_
        refine x_gA hc hR fl_M_41 heq d_M_answers_102 (fun v18 heq => ?_)
        refine lv_iload_n hx hb d_M_answers_105 rfl (lv_at hl 1 rfl) ?_
        refine x_aI hc hR heq d_M_answers_106 (fun v19 heq => ?_)
        refine W.widen (k := 0) (n := 0) (by omega) (by omega) ?_
        exact k_M_answers_b107 hc hrm t0 x1 v19 t0 h0 H locs ls hR hLo (lv_sub hl [0, 1] rfl) heq
      · rw [if_neg hq] at heq
        refine lv_aload_n hx hb d_M_answers_92 rfl (lv_at hl 0 rfl) ?_
        refine x_gA hc hR fl_M_53 heq d_M_answers_93 (fun v20 heq => ?_)
        refine lv_iload_n hx hb d_M_answers_96 rfl (lv_at hl 1 rfl) ?_
        refine x_aI hc hR heq d_M_answers_97 (fun v21 heq => ?_)
        refine lv_goto (tgt := 107) hx hb d_M_answers_98 rfl ?_
        refine W.widen (k := 0) (n := 0) (by omega) (by omega) ?_
        exact k_M_answers_b107 hc hrm t0 x1 v21 t0 h0 H locs ls hR hLo (lv_sub hl [0, 1] rfl) heq
set_option maxRecDepth 100000 in
set_option maxHeartbeats 4000000 in
theorem k_M_answers_b26 {p : Program} {l : Launch} {e : Env} {s : State} {m : MethodId} {args : Array Value} {below : List Frame} {meth : Method} {c : Code} {s0 : State} {A0 : Array Value} {G : Gx_t} {r : Outcome × Hs_t} {rm : Room} (hc : Cx_t p s m meth c s0 A0 l G y_M_answers b_M_answers 3 (some .boolean) []) (hrm : rm_Ok 0 0 2 46 rm) : ∀ (t0 : Nat) (x1 : Int32) (h0 : Hs_t) (H : Heap) (locs : List Loc) (ls : Array Slot), Rp_h G s0.heap h0 H → Lo_k s0 locs → lv_has ls 3 [(0, .ref t0), (1, .int x1)] → f_M_answers_b26 t0 x1 h0 = some r → W p l e rm s m args below meth c H locs 0 0 (xq_MQ G s0 below r s rm.cells rm.slots) (F0 m 26 ls []) := by
  have hx := hc.x
  have hb := hc.b
  obtain ⟨hm1, hm2, hm3, hm4⟩ := id hrm
  intro t0 x1 h0 H locs ls hR hLo hl heq
  unfold f_M_answers_b26 at heq
  refine lv_aload_n hx hb d_M_answers_26 rfl (lv_at hl 0 rfl) ?_
  refine x_gA hc hR fl_M_20 heq d_M_answers_27 (fun v5 heq => ?_)
  refine lv_iload_n hx hb d_M_answers_30 rfl (lv_at hl 1 rfl) ?_
  refine x_aI hc hR heq d_M_answers_31 (fun v6 heq => ?_)
  refine lv_iconst (v := 1) hx hb d_M_answers_32 (by decide) ?_
  refine lv_icmp_ne (tgt := 57) hx hb d_M_answers_33 rfl (fun hq => ?_) (fun hq => ?_)
  · rw [if_neg hq] at heq
    refine W.widen (k := 0) (n := 0) (by omega) (by omega) ?_
    exact k_M_answers_b57 hc hrm t0 x1 h0 H locs ls hR hLo (lv_sub hl [0, 1] rfl) heq
  · rw [if_pos hq] at heq
    refine lv_aload_n hx hb d_M_answers_36 rfl (lv_at hl 0 rfl) ?_
    refine lv_iload_n hx hb d_M_answers_37 rfl (lv_at hl 1 rfl) ?_
    refine x_ck heq (fun tt fs ha ht heq => ?_)
    obtain rfl : tt = 8 := by simpa using ht
    refine x_bI (mc := 0) (ms := 0) (st := []) hc hLo heq ⟨by omega, by omega⟩ (fun r9 h9 => x_runV hc (c_M_toGive hc.g rm_M_toGive rk_M_toGive _ _ _ _ h9) md_M_toGive hR ha rfl wd_833 wd_835 sp_14 hl.1 ml_M_toGive rfl (Nat.le_of_ble_eq_true rfl) d_M_answers_38 ⟨by show 0 + 1 ≤ _; omega, by show 8 + (2 + 11) + (0) ≤ _; omega⟩ ⟨by show 0 + 0 ≤ _; omega, by show 0 + 0 ≤ _; omega⟩) (fun v7 h2 H locs hR hLo heq => ?_)
    refine lv_if_le (tgt := 57) hx hb d_M_answers_41 rfl (fun hq => ?_) (fun hq => ?_)
    · rw [if_pos hq] at heq
      refine W.widen (k := 0) (n := 0) (by omega) (by omega) ?_
      exact k_M_answers_b57 hc hrm t0 x1 h2 H locs ls hR hLo (lv_sub hl [0, 1] rfl) heq
    · rw [if_neg hq] at heq
      refine lv_aload_n hx hb d_M_answers_44 rfl (lv_at hl 0 rfl) ?_
      refine lv_iload_n hx hb d_M_answers_45 rfl (lv_at hl 1 rfl) ?_
      refine lv_aload_n hx hb d_M_answers_46 rfl (lv_at hl 0 rfl) ?_
      refine x_gA hc hR fl_M_53 heq d_M_answers_47 (fun v8 heq => ?_)
      refine lv_iload_n hx hb d_M_answers_50 rfl (lv_at hl 1 rfl) ?_
      refine x_aI hc hR heq d_M_answers_51 (fun v9 heq => ?_)
      refine x_ck heq (fun tt fs ha ht heq => ?_)
      obtain rfl : tt = 8 := by simpa using ht
      refine x_bV (mc := 0) (ms := 0) (st := []) hc hLo heq ⟨by omega, by omega⟩ (fun r9 h9 => x_runV hc (c_M_give hc.g rm_M_give rk_M_give _ _ _ _ _ h9) md_M_give hR ha rfl wd_837 wd_839 sp_15 hl.1 ml_M_give rfl (Nat.le_of_ble_eq_true rfl) d_M_answers_52 ⟨by show 1 + 1 ≤ _; omega, by show 8 + (4 + 11) + (23) ≤ _; omega⟩ ⟨by show 0 + 0 ≤ _; omega, by show 0 + 0 ≤ _; omega⟩) (fun h3 H locs hR hLo heq => ?_)
      refine lv_iconst (v := 1) hx hb d_M_answers_55 (by decide) ?_
      exact x_zret hc hR hLo ⟨by omega, by omega⟩ heq d_M_answers_56
set_option maxRecDepth 100000 in
set_option maxHeartbeats 4000000 in
theorem c_M_answers {l : Launch} {s0 : State} {A0 : Array Value} {G : Gx_t} (hG : G_0 l s0 A0 G) (rm : Room) (hrm : rm_Ok 0 0 2 46 rm) (t0 : Nat) (x1 : Int32) (h0 : Hs_t) (r : Outcome × Hs_t) (heq : f_M_answers t0 x1 h0 = some r) : M_X G s0 l y_M_answers (.code y_M_answers b_M_answers 3 (some .boolean)) rm [.ref t0, .int x1] h0 r := by
  refine M_X.of (by decide) hG (fun p e s m below meth c H hc hR => ?_)
  have hx := hc.x
  have hb := hc.b
  obtain ⟨hm1, hm2, hm3, hm4⟩ := id hrm
  have hLo : Lo_k s0 [] := fun _ hq => absurd hq List.not_mem_nil
  have hl := lv_entry ([.ref t0, .int x1]) (n := 3) (Nat.le_of_ble_eq_true rfl)
  rw [lg_entry_eq]
  generalize (lg_sl ([.ref t0, .int x1]) ++ List.replicate (3 - (lg_sl ([.ref t0, .int x1])).length) Slot.unset).toArray = ls at hl ⊢
  have hl : lv_has ls 3 [(0, .ref t0), (1, .int x1)] := hl
  generalize hle : ([] : List Loc) = locs at hLo ⊢
  unfold f_M_answers at heq
  refine lv_aload_n hx hb d_M_answers_0 rfl (lv_at hl 0 rfl) ?_
  refine x_gA hc hR fl_M_20 heq d_M_answers_1 (fun v1 heq => ?_)
  refine lv_iload_n hx hb d_M_answers_4 rfl (lv_at hl 1 rfl) ?_
  refine x_aI hc hR heq d_M_answers_5 (fun v2 heq => ?_)
  refine lv_iconst (v := 3) hx hb d_M_answers_6 (by decide) ?_
  refine lv_icmp_ne (tgt := 26) hx hb d_M_answers_7 rfl (fun hq => ?_) (fun hq => ?_)
  · rw [if_neg hq] at heq
    refine W.widen (k := 0) (n := 0) (by omega) (by omega) ?_
    exact k_M_answers_b26 hc hrm t0 x1 h0 H locs ls hR hLo (lv_sub hl [0, 1] rfl) heq
  · rw [if_pos hq] at heq
    refine lv_aload_n hx hb d_M_answers_10 rfl (lv_at hl 0 rfl) ?_
    refine x_gA hc hR fl_M_26 heq d_M_answers_11 (fun v3 heq => ?_)
    refine lv_iload_n hx hb d_M_answers_14 rfl (lv_at hl 1 rfl) ?_
    refine x_aI hc hR heq d_M_answers_15 (fun v4 heq => ?_)
    refine lv_if_ne (tgt := 26) hx hb d_M_answers_16 rfl (fun hq => ?_) (fun hq => ?_)
    · rw [if_neg hq] at heq
      refine W.widen (k := 0) (n := 0) (by omega) (by omega) ?_
      exact k_M_answers_b26 hc hrm t0 x1 h0 H locs ls hR hLo (lv_sub hl [0, 1] rfl) heq
    · rw [if_pos hq] at heq
      refine lv_aload_n hx hb d_M_answers_19 rfl (lv_at hl 0 rfl) ?_
      refine lv_iconst (v := 0) hx hb d_M_answers_20 (by decide) ?_
      refine x_pV hc hR hLo fl_M_86 (Or.inl rfl) rfl rfl heq d_M_answers_21 (fun h1 H locs hR hLo heq => ?_)
      refine lv_iconst (v := 1) hx hb d_M_answers_24 (by decide) ?_
      exact x_zret hc hR hLo ⟨by omega, by omega⟩ heq d_M_answers_25
def rm_M_answers : Room := { frames := 2, cells := 0, slots := 0, locals := 46 }
theorem rk_M_answers : rm_Ok 0 0 2 46 rm_M_answers := ⟨Nat.le_refl _, Nat.le_refl _, Nat.le_refl _, Nat.le_refl _⟩
def f_M_through_b39 (sv0 : Int32) (h0 : Hs_t) : Rs_t := re_Z sv0 h0
def f_M_through_b34 (h0 : Hs_t) : Rs_t := f_M_through_b39 1 h0
def f_M_through_b38 (h0 : Hs_t) : Rs_t := f_M_through_b39 0 h0
def f_M_through (t0 : Nat) (x1 : Int32) (h0 : Hs_t) : Rs_t := (fd_A [8] 7 h0 t0).bind fun v1 => (ar_I h0 v1 x1).bind fun v2 => if v2 = 1 then ((fd_A [8] 18 h0 t0).bind fun v3 => (ar_I h0 v3 x1).bind fun v4 => (fd_A [8] 8 h0 t0).bind fun v5 => (ar_I h0 v5 x1).bind fun v6 => if v4 < v6 then (f_M_through_b38 h0) else ((fd_A [8] 16 h0 t0).bind fun v7 => (ar_Z h0 v7 x1).bind fun v8 => if v8 = 0 then (f_M_through_b34 h0) else (f_M_through_b38 h0))) else (f_M_through_b34 h0)
set_option maxRecDepth 100000 in
set_option maxHeartbeats 4000000 in
theorem k_M_through_b39 {p : Program} {l : Launch} {e : Env} {s : State} {m : MethodId} {args : Array Value} {below : List Frame} {meth : Method} {c : Code} {s0 : State} {A0 : Array Value} {G : Gx_t} {r : Outcome × Hs_t} {rm : Room} (hc : Cx_t p s m meth c s0 A0 l G y_M_through b_M_through 2 (some .boolean) []) (hrm : rm_Ok 0 0 0 0 rm) : ∀ (sv0 : Int32) (h0 : Hs_t) (H : Heap) (locs : List Loc) (ls : Array Slot), Rp_h G s0.heap h0 H → Lo_k s0 locs → lv_has ls 2 [] → f_M_through_b39 sv0 h0 = some r → W p l e rm s m args below meth c H locs 0 0 (xq_MQ G s0 below r s rm.cells rm.slots) (F0 m 39 ls [.int sv0]) := by
  have hx := hc.x
  have hb := hc.b
  obtain ⟨hm1, hm2, hm3, hm4⟩ := id hrm
  intro sv0 h0 H locs ls hR hLo hl heq
  unfold f_M_through_b39 at heq
  exact x_zret hc hR hLo ⟨by omega, by omega⟩ heq d_M_through_39
set_option maxRecDepth 100000 in
set_option maxHeartbeats 4000000 in
theorem k_M_through_b34 {p : Program} {l : Launch} {e : Env} {s : State} {m : MethodId} {args : Array Value} {below : List Frame} {meth : Method} {c : Code} {s0 : State} {A0 : Array Value} {G : Gx_t} {r : Outcome × Hs_t} {rm : Room} (hc : Cx_t p s m meth c s0 A0 l G y_M_through b_M_through 2 (some .boolean) []) (hrm : rm_Ok 0 0 0 0 rm) : ∀  (h0 : Hs_t) (H : Heap) (locs : List Loc) (ls : Array Slot), Rp_h G s0.heap h0 H → Lo_k s0 locs → lv_has ls 2 [] → f_M_through_b34  h0 = some r → W p l e rm s m args below meth c H locs 0 0 (xq_MQ G s0 below r s rm.cells rm.slots) (F0 m 34 ls []) := by
  have hx := hc.x
  have hb := hc.b
  obtain ⟨hm1, hm2, hm3, hm4⟩ := id hrm
  intro  h0 H locs ls hR hLo hl heq
  unfold f_M_through_b34 at heq
  refine lv_iconst (v := 1) hx hb d_M_through_34 (by decide) ?_
  refine lv_goto (tgt := 39) hx hb d_M_through_35 rfl ?_
  refine W.widen (k := 0) (n := 0) (by omega) (by omega) ?_
  exact k_M_through_b39 hc hrm 1 h0 H locs ls hR hLo (lv_sub hl [] rfl) heq
set_option maxRecDepth 100000 in
set_option maxHeartbeats 4000000 in
theorem k_M_through_b38 {p : Program} {l : Launch} {e : Env} {s : State} {m : MethodId} {args : Array Value} {below : List Frame} {meth : Method} {c : Code} {s0 : State} {A0 : Array Value} {G : Gx_t} {r : Outcome × Hs_t} {rm : Room} (hc : Cx_t p s m meth c s0 A0 l G y_M_through b_M_through 2 (some .boolean) []) (hrm : rm_Ok 0 0 0 0 rm) : ∀  (h0 : Hs_t) (H : Heap) (locs : List Loc) (ls : Array Slot), Rp_h G s0.heap h0 H → Lo_k s0 locs → lv_has ls 2 [] → f_M_through_b38  h0 = some r → W p l e rm s m args below meth c H locs 0 0 (xq_MQ G s0 below r s rm.cells rm.slots) (F0 m 38 ls []) := by
  have hx := hc.x
  have hb := hc.b
  obtain ⟨hm1, hm2, hm3, hm4⟩ := id hrm
  intro  h0 H locs ls hR hLo hl heq
  unfold f_M_through_b38 at heq
  refine lv_iconst (v := 0) hx hb d_M_through_38 (by decide) ?_
  refine W.widen (k := 0) (n := 0) (by omega) (by omega) ?_
  exact k_M_through_b39 hc hrm 0 h0 H locs ls hR hLo (lv_sub hl [] rfl) heq
set_option maxRecDepth 100000 in
set_option maxHeartbeats 4000000 in
theorem c_M_through {l : Launch} {s0 : State} {A0 : Array Value} {G : Gx_t} (hG : G_0 l s0 A0 G) (rm : Room) (hrm : rm_Ok 0 0 0 0 rm) (t0 : Nat) (x1 : Int32) (h0 : Hs_t) (r : Outcome × Hs_t) (heq : f_M_through t0 x1 h0 = some r) : M_X G s0 l y_M_through (.code y_M_through b_M_through 2 (some .boolean)) rm [.ref t0, .int x1] h0 r := by
  refine M_X.of (by decide) hG (fun p e s m below meth c H hc hR => ?_)
  have hx := hc.x
  have hb := hc.b
  obtain ⟨hm1, hm2, hm3, hm4⟩ := id hrm
  have hLo : Lo_k s0 [] := fun _ hq => absurd hq List.not_mem_nil
  have hl := lv_entry ([.ref t0, .int x1]) (n := 2) (Nat.le_of_ble_eq_true rfl)
  rw [lg_entry_eq]
  generalize (lg_sl ([.ref t0, .int x1]) ++ List.replicate (2 - (lg_sl ([.ref t0, .int x1])).length) Slot.unset).toArray = ls at hl ⊢
  have hl : lv_has ls 2 [(0, .ref t0), (1, .int x1)] := hl
  generalize hle : ([] : List Loc) = locs at hLo ⊢
  unfold f_M_through at heq
  refine lv_aload_n hx hb d_M_through_0 rfl (lv_at hl 0 rfl) ?_
  refine x_gA hc hR fl_M_20 heq d_M_through_1 (fun v1 heq => ?_)
  refine lv_iload_n hx hb d_M_through_4 rfl (lv_at hl 1 rfl) ?_
  refine x_aI hc hR heq d_M_through_5 (fun v2 heq => ?_)
  refine lv_iconst (v := 1) hx hb d_M_through_6 (by decide) ?_
  refine lv_icmp_ne (tgt := 34) hx hb d_M_through_7 rfl (fun hq => ?_) (fun hq => ?_)
  · rw [if_neg hq] at heq
    refine W.widen (k := 0) (n := 0) (by omega) (by omega) ?_
    exact k_M_through_b34 hc hrm h0 H locs ls hR hLo (lv_sub hl [] rfl) heq
  · rw [if_pos hq] at heq
    refine lv_aload_n hx hb d_M_through_10 rfl (lv_at hl 0 rfl) ?_
    refine x_gA hc hR fl_M_53 heq d_M_through_11 (fun v3 heq => ?_)
    refine lv_iload_n hx hb d_M_through_14 rfl (lv_at hl 1 rfl) ?_
    refine x_aI hc hR heq d_M_through_15 (fun v4 heq => ?_)
    refine lv_aload_n hx hb d_M_through_16 rfl (lv_at hl 0 rfl) ?_
    refine x_gA hc hR fl_M_23 heq d_M_through_17 (fun v5 heq => ?_)
    refine lv_iload_n hx hb d_M_through_20 rfl (lv_at hl 1 rfl) ?_
    refine x_aI hc hR heq d_M_through_21 (fun v6 heq => ?_)
    refine lv_icmp_lt (tgt := 38) hx hb d_M_through_22 rfl (fun hq => ?_) (fun hq => ?_)
    · rw [if_pos hq] at heq
      refine W.widen (k := 0) (n := 0) (by omega) (by omega) ?_
      exact k_M_through_b38 hc hrm h0 H locs ls hR hLo (lv_sub hl [] rfl) heq
    · rw [if_neg hq] at heq
      refine lv_aload_n hx hb d_M_through_25 rfl (lv_at hl 0 rfl) ?_
      refine x_gA hc hR fl_M_47 heq d_M_through_26 (fun v7 heq => ?_)
      refine lv_iload_n hx hb d_M_through_29 rfl (lv_at hl 1 rfl) ?_
      refine x_aZ hc hR heq d_M_through_30 (fun v8 heq => ?_)
      refine lv_if_ne (tgt := 38) hx hb d_M_through_31 rfl (fun hq => ?_) (fun hq => ?_)
      · rw [if_neg hq] at heq
        refine W.widen (k := 0) (n := 0) (by omega) (by omega) ?_
        exact k_M_through_b38 hc hrm h0 H locs ls hR hLo (lv_sub hl [] rfl) heq
      · rw [if_pos hq] at heq
        refine W.widen (k := 0) (n := 0) (by omega) (by omega) ?_
        exact k_M_through_b34 hc hrm h0 H locs ls hR hLo (lv_sub hl [] rfl) heq
def rm_M_through : Room := { frames := 0, cells := 0, slots := 0, locals := 0 }
theorem rk_M_through : rm_Ok 0 0 0 0 rm_M_through := ⟨Nat.le_refl _, Nat.le_refl _, Nat.le_refl _, Nat.le_refl _⟩
def f_M_below_b54 (sv0 : Int32) (h0 : Hs_t) : Rs_t := re_I sv0 h0
def f_M_below_b36 (t0 : Nat) (x1 : Int32) (x2 : Int32) (h0 : Hs_t) : Rs_t := (ck_T [8] h0 t0).bind fun _ => bd_I (f_M_through t0 x1 h0) (fun v9 h1 => if v9 = 0 then ((fd_A [8] 8 h1 t0).bind fun v10 => (ar_I h1 v10 x1).bind fun v11 => f_M_below_b54 v11 h1) else (f_M_below_b54 x2 h1))
def f_M_below (t0 : Nat) (x1 : Int32) (h0 : Hs_t) : Rs_t := (fd_A [8] 18 h0 t0).bind fun v1 => (ar_I h0 v1 x1).bind fun v2 => (fd_A [8] 7 h0 t0).bind fun v3 => (ar_I h0 v3 x1).bind fun v4 => if v4 = 3 then ((fd_A [8] 9 h0 t0).bind fun v5 => (ar_I h0 v5 x1).bind fun v6 => if v2 ≤ v6 then (f_M_below_b36 t0 x1 v2 h0) else ((fd_A [8] 9 h0 t0).bind fun v7 => (ar_I h0 v7 x1).bind fun v8 => f_M_below_b54 v8 h0)) else (f_M_below_b36 t0 x1 v2 h0)
set_option maxRecDepth 100000 in
set_option maxHeartbeats 4000000 in
theorem k_M_below_b54 {p : Program} {l : Launch} {e : Env} {s : State} {m : MethodId} {args : Array Value} {below : List Frame} {meth : Method} {c : Code} {s0 : State} {A0 : Array Value} {G : Gx_t} {r : Outcome × Hs_t} {rm : Room} (hc : Cx_t p s m meth c s0 A0 l G y_M_below b_M_below 3 (some .int) []) (hrm : rm_Ok 0 0 1 21 rm) : ∀ (sv0 : Int32) (h0 : Hs_t) (H : Heap) (locs : List Loc) (ls : Array Slot), Rp_h G s0.heap h0 H → Lo_k s0 locs → lv_has ls 3 [] → f_M_below_b54 sv0 h0 = some r → W p l e rm s m args below meth c H locs 0 0 (xq_MQ G s0 below r s rm.cells rm.slots) (F0 m 54 ls [.int sv0]) := by
  have hx := hc.x
  have hb := hc.b
  obtain ⟨hm1, hm2, hm3, hm4⟩ := id hrm
  intro sv0 h0 H locs ls hR hLo hl heq
  unfold f_M_below_b54 at heq
  exact x_iret hc hR hLo ⟨by omega, by omega⟩ heq d_M_below_54
set_option maxRecDepth 100000 in
set_option maxHeartbeats 4000000 in
theorem k_M_below_b36 {p : Program} {l : Launch} {e : Env} {s : State} {m : MethodId} {args : Array Value} {below : List Frame} {meth : Method} {c : Code} {s0 : State} {A0 : Array Value} {G : Gx_t} {r : Outcome × Hs_t} {rm : Room} (hc : Cx_t p s m meth c s0 A0 l G y_M_below b_M_below 3 (some .int) []) (hrm : rm_Ok 0 0 1 21 rm) : ∀ (t0 : Nat) (x1 : Int32) (x2 : Int32) (h0 : Hs_t) (H : Heap) (locs : List Loc) (ls : Array Slot), Rp_h G s0.heap h0 H → Lo_k s0 locs → lv_has ls 3 [(0, .ref t0), (1, .int x1), (2, .int x2)] → f_M_below_b36 t0 x1 x2 h0 = some r → W p l e rm s m args below meth c H locs 0 0 (xq_MQ G s0 below r s rm.cells rm.slots) (F0 m 36 ls []) := by
  have hx := hc.x
  have hb := hc.b
  obtain ⟨hm1, hm2, hm3, hm4⟩ := id hrm
  intro t0 x1 x2 h0 H locs ls hR hLo hl heq
  unfold f_M_below_b36 at heq
  refine lv_aload_n hx hb d_M_below_36 rfl (lv_at hl 0 rfl) ?_
  refine lv_iload_n hx hb d_M_below_37 rfl (lv_at hl 1 rfl) ?_
  refine x_ck heq (fun tt fs ha ht heq => ?_)
  obtain rfl : tt = 8 := by simpa using ht
  refine x_bI (mc := 0) (ms := 0) (st := []) hc hLo heq ⟨by omega, by omega⟩ (fun r9 h9 => x_runV hc (c_M_through hc.g rm_M_through rk_M_through _ _ _ _ h9) md_M_through hR ha rfl wd_849 wd_851 sp_18 hl.1 ml_M_through rfl (Nat.le_of_ble_eq_true rfl) d_M_below_38 ⟨by show 0 + 1 ≤ _; omega, by show 8 + (2 + 11) + (0) ≤ _; omega⟩ ⟨by show 0 + 0 ≤ _; omega, by show 0 + 0 ≤ _; omega⟩) (fun v9 h1 H locs hR hLo heq => ?_)
  refine lv_if_eq (tgt := 48) hx hb d_M_below_41 rfl (fun hq => ?_) (fun hq => ?_)
  · rw [if_pos hq] at heq
    refine lv_aload_n hx hb d_M_below_48 rfl (lv_at hl 0 rfl) ?_
    refine x_gA hc hR fl_M_23 heq d_M_below_49 (fun v10 heq => ?_)
    refine lv_iload_n hx hb d_M_below_52 rfl (lv_at hl 1 rfl) ?_
    refine x_aI hc hR heq d_M_below_53 (fun v11 heq => ?_)
    refine W.widen (k := 0) (n := 0) (by omega) (by omega) ?_
    exact k_M_below_b54 hc hrm v11 h1 H locs ls hR hLo (lv_sub hl [] rfl) heq
  · rw [if_neg hq] at heq
    refine lv_iload_n hx hb d_M_below_44 rfl (lv_at hl 2 rfl) ?_
    refine lv_goto (tgt := 54) hx hb d_M_below_45 rfl ?_
    refine W.widen (k := 0) (n := 0) (by omega) (by omega) ?_
    exact k_M_below_b54 hc hrm x2 h1 H locs ls hR hLo (lv_sub hl [] rfl) heq
set_option maxRecDepth 100000 in
set_option maxHeartbeats 4000000 in
theorem c_M_below {l : Launch} {s0 : State} {A0 : Array Value} {G : Gx_t} (hG : G_0 l s0 A0 G) (rm : Room) (hrm : rm_Ok 0 0 1 21 rm) (t0 : Nat) (x1 : Int32) (h0 : Hs_t) (r : Outcome × Hs_t) (heq : f_M_below t0 x1 h0 = some r) : M_X G s0 l y_M_below (.code y_M_below b_M_below 3 (some .int)) rm [.ref t0, .int x1] h0 r := by
  refine M_X.of (by decide) hG (fun p e s m below meth c H hc hR => ?_)
  have hx := hc.x
  have hb := hc.b
  obtain ⟨hm1, hm2, hm3, hm4⟩ := id hrm
  have hLo : Lo_k s0 [] := fun _ hq => absurd hq List.not_mem_nil
  have hl := lv_entry ([.ref t0, .int x1]) (n := 3) (Nat.le_of_ble_eq_true rfl)
  rw [lg_entry_eq]
  generalize (lg_sl ([.ref t0, .int x1]) ++ List.replicate (3 - (lg_sl ([.ref t0, .int x1])).length) Slot.unset).toArray = ls at hl ⊢
  have hl : lv_has ls 3 [(0, .ref t0), (1, .int x1)] := hl
  generalize hle : ([] : List Loc) = locs at hLo ⊢
  unfold f_M_below at heq
  refine lv_aload_n hx hb d_M_below_0 rfl (lv_at hl 0 rfl) ?_
  refine x_gA hc hR fl_M_53 heq d_M_below_1 (fun v1 heq => ?_)
  refine lv_iload_n hx hb d_M_below_4 rfl (lv_at hl 1 rfl) ?_
  refine x_aI hc hR heq d_M_below_5 (fun v2 heq => ?_)
  refine lv_istore_n (lv' := [(2, .int v2), (0, .ref t0), (1, .int x1)]) hx hb d_M_below_6 rfl hl (by decide) rfl (fun ls hl => ?_)
  refine lv_aload_n hx hb d_M_below_7 rfl (lv_at hl 1 rfl) ?_
  refine x_gA hc hR fl_M_20 heq d_M_below_8 (fun v3 heq => ?_)
  refine lv_iload_n hx hb d_M_below_11 rfl (lv_at hl 2 rfl) ?_
  refine x_aI hc hR heq d_M_below_12 (fun v4 heq => ?_)
  refine lv_iconst (v := 3) hx hb d_M_below_13 (by decide) ?_
  refine lv_icmp_ne (tgt := 36) hx hb d_M_below_14 rfl (fun hq => ?_) (fun hq => ?_)
  · rw [if_neg hq] at heq
    refine W.widen (k := 0) (n := 0) (by omega) (by omega) ?_
    exact k_M_below_b36 hc hrm t0 x1 v2 h0 H locs ls hR hLo (lv_sub hl [1, 2, 0] rfl) heq
  · rw [if_pos hq] at heq
    refine lv_aload_n hx hb d_M_below_17 rfl (lv_at hl 1 rfl) ?_
    refine x_gA hc hR fl_M_26 heq d_M_below_18 (fun v5 heq => ?_)
    refine lv_iload_n hx hb d_M_below_21 rfl (lv_at hl 2 rfl) ?_
    refine x_aI hc hR heq d_M_below_22 (fun v6 heq => ?_)
    refine lv_iload_n hx hb d_M_below_23 rfl (lv_at hl 0 rfl) ?_
    refine lv_icmp_ge (tgt := 36) hx hb d_M_below_24 rfl (fun hq => ?_) (fun hq => ?_)
    · rw [if_pos hq] at heq
      refine W.widen (k := 0) (n := 0) (by omega) (by omega) ?_
      exact k_M_below_b36 hc hrm t0 x1 v2 h0 H locs ls hR hLo (lv_sub hl [1, 2, 0] rfl) heq
    · rw [if_neg hq] at heq
      refine lv_aload_n hx hb d_M_below_27 rfl (lv_at hl 1 rfl) ?_
      refine x_gA hc hR fl_M_26 heq d_M_below_28 (fun v7 heq => ?_)
      refine lv_iload_n hx hb d_M_below_31 rfl (lv_at hl 2 rfl) ?_
      refine x_aI hc hR heq d_M_below_32 (fun v8 heq => ?_)
      refine lv_goto (tgt := 54) hx hb d_M_below_33 rfl ?_
      refine W.widen (k := 0) (n := 0) (by omega) (by omega) ?_
      exact k_M_below_b54 hc hrm v8 h0 H locs ls hR hLo (lv_sub hl [] rfl) heq
def rm_M_below : Room := { frames := 1, cells := 0, slots := 0, locals := 21 }
theorem rk_M_below : rm_Ok 0 0 1 21 rm_M_below := ⟨Nat.le_refl _, Nat.le_refl _, Nat.le_refl _, Nat.le_refl _⟩
def f_M_countLines_b97 (r2 : Nat → Int32 → Int32 → Hs_t → Rs_t) (t0 : Nat) (x1 : Int32) (x2 : Int32) (sv0 : Int32) (sv1 : Int32) (sv2 : Nat) (h0 : Hs_t) : Rs_t := (as_Z h0 sv2 sv1 sv0).bind fun h1 => r2 t0 x1 (x2 + 1) h1
def f_M_countLines_b76 (r2 : Nat → Int32 → Int32 → Hs_t → Rs_t) (t0 : Nat) (x1 : Int32) (x2 : Int32) (h0 : Hs_t) : Rs_t := (fd_A [8] 11 h0 t0).bind fun v10 => (fd_A [8] 19 h0 t0).bind fun v11 => (ar_I h0 v11 x2).bind fun v12 => if v12 = 13 then (f_M_countLines_b97 r2 t0 x1 x2 1 x1 v10 h0) else (f_M_countLines_b97 r2 t0 x1 x2 0 x1 v10 h0)
def f_M_countLines_b58 (r2 : Nat → Int32 → Int32 → Hs_t → Rs_t) (t0 : Nat) (x1 : Int32) (x2 : Int32) (x3 : Int32) (h0 : Hs_t) : Rs_t := if x3 = 0 then ((fd_A [8] 9 h0 t0).bind fun v13 => (fd_A [8] 9 h0 t0).bind fun v14 => (ar_I h0 v14 x1).bind fun v15 => (as_I h0 v13 x1 (v15 + 1)).bind fun h2 => f_M_countLines_b76 r2 t0 x1 x2 h2) else (f_M_countLines_b76 r2 t0 x1 x2 h0)
def f_M_countLines_b35 (r2 : Nat → Int32 → Int32 → Hs_t → Rs_t) (t0 : Nat) (x1 : Int32) (x2 : Int32) (sv0 : Int32) (h0 : Hs_t) : Rs_t := (fd_A [8] 19 h0 t0).bind fun v6 => (ar_I h0 v6 x2).bind fun v7 => if v7 = 10 then (f_M_countLines_b58 r2 t0 x1 x2 sv0 h0) else ((fd_A [8] 19 h0 t0).bind fun v8 => (ar_I h0 v8 x2).bind fun v9 => if v9 = 13 then (f_M_countLines_b58 r2 t0 x1 x2 sv0 h0) else (f_M_countLines_b76 r2 t0 x1 x2 h0))
def f_M_countLines_b34 (r2 : Nat → Int32 → Int32 → Hs_t → Rs_t) (t0 : Nat) (x1 : Int32) (x2 : Int32) (h0 : Hs_t) : Rs_t := f_M_countLines_b35 r2 t0 x1 x2 0 h0
def f_M_countLines_b2 : Nat → Nat → Int32 → Int32 → Hs_t → Rs_t
  | 0, _, _, _, _ => none
  | n + 1, t0, x1, x2, h0 => (fd_I [8] 20 h0 t0).bind fun v1 => if v1 ≤ x2 then (re_V h0) else ((fd_A [8] 19 h0 t0).bind fun v2 => (ar_I h0 v2 x2).bind fun v3 => if v3 = 10 then ((fd_A [8] 11 h0 t0).bind fun v4 => (ar_Z h0 v4 x1).bind fun v5 => if v5 = 0 then (f_M_countLines_b34 (f_M_countLines_b2 n) t0 x1 x2 h0) else (f_M_countLines_b35 (f_M_countLines_b2 n) t0 x1 x2 1 h0)) else (f_M_countLines_b34 (f_M_countLines_b2 n) t0 x1 x2 h0))
def f_M_countLines (t0 : Nat) (x1 : Int32) (h0 : Hs_t) : Rs_t := f_M_countLines_b2 fu_N t0 x1 0 h0
set_option maxRecDepth 100000 in
set_option maxHeartbeats 4000000 in
theorem k_M_countLines_b97 {p : Program} {l : Launch} {e : Env} {s : State} {m : MethodId} {args : Array Value} {below : List Frame} {meth : Method} {c : Code} {s0 : State} {A0 : Array Value} {G : Gx_t} {r : Outcome × Hs_t} {rm : Room} (r2 : Nat → Int32 → Int32 → Hs_t → Rs_t) (hc : Cx_t p s m meth c s0 A0 l G y_M_countLines b_M_countLines 4 none []) (hrm : rm_Ok 0 0 0 0 rm) (hr2 : ∀ (t0 : Nat) (x1 : Int32) (x2 : Int32) (h0 : Hs_t) (H : Heap) (locs : List Loc) (ls : Array Slot), Rp_h G s0.heap h0 H → Lo_k s0 locs → lv_has ls 4 [(0, .ref t0), (1, .int x1), (2, .int x2)] → r2 t0 x1 x2 h0 = some r → W p l e rm s m args below meth c H locs 0 0 (xq_MQ G s0 below r s rm.cells rm.slots) (F0 m 2 ls [])) : ∀ (t0 : Nat) (x1 : Int32) (x2 : Int32) (sv0 : Int32) (sv1 : Int32) (sv2 : Nat) (h0 : Hs_t) (H : Heap) (locs : List Loc) (ls : Array Slot), Rp_h G s0.heap h0 H → Lo_k s0 locs → lv_has ls 4 [(0, .ref t0), (1, .int x1), (2, .int x2)] → f_M_countLines_b97 r2 t0 x1 x2 sv0 sv1 sv2 h0 = some r → W p l e rm s m args below meth c H locs 0 0 (xq_MQ G s0 below r s rm.cells rm.slots) (F0 m 97 ls [.int sv0, .int sv1, .ref sv2]) := by
  have hx := hc.x
  have hb := hc.b
  obtain ⟨hm1, hm2, hm3, hm4⟩ := id hrm
  intro t0 x1 x2 sv0 sv1 sv2 h0 H locs ls hR hLo hl heq
  unfold f_M_countLines_b97 at heq
  refine x_sZ hc hR hLo heq d_M_countLines_97 (fun h1 H locs hR hLo heq => ?_)
  refine lv_iinc (k := 2) (v := (x2 + 1)) (lv' := [(2, .int (x2 + 1)), (0, .ref t0), (1, .int x1)]) hx hb d_M_countLines_98 hl rfl rfl (by decide) rfl (fun ls hl => ?_)
  refine lv_goto (tgt := 2) hx hb d_M_countLines_101 rfl ?_
  refine W.widen (k := 0) (n := 0) (by omega) (by omega) ?_
  exact hr2 t0 x1 (x2 + 1) h1 H locs ls hR hLo (lv_sub hl [1, 2, 0] rfl) heq
set_option maxRecDepth 100000 in
set_option maxHeartbeats 4000000 in
theorem k_M_countLines_b76 {p : Program} {l : Launch} {e : Env} {s : State} {m : MethodId} {args : Array Value} {below : List Frame} {meth : Method} {c : Code} {s0 : State} {A0 : Array Value} {G : Gx_t} {r : Outcome × Hs_t} {rm : Room} (r2 : Nat → Int32 → Int32 → Hs_t → Rs_t) (hc : Cx_t p s m meth c s0 A0 l G y_M_countLines b_M_countLines 4 none []) (hrm : rm_Ok 0 0 0 0 rm) (hr2 : ∀ (t0 : Nat) (x1 : Int32) (x2 : Int32) (h0 : Hs_t) (H : Heap) (locs : List Loc) (ls : Array Slot), Rp_h G s0.heap h0 H → Lo_k s0 locs → lv_has ls 4 [(0, .ref t0), (1, .int x1), (2, .int x2)] → r2 t0 x1 x2 h0 = some r → W p l e rm s m args below meth c H locs 0 0 (xq_MQ G s0 below r s rm.cells rm.slots) (F0 m 2 ls [])) : ∀ (t0 : Nat) (x1 : Int32) (x2 : Int32) (h0 : Hs_t) (H : Heap) (locs : List Loc) (ls : Array Slot), Rp_h G s0.heap h0 H → Lo_k s0 locs → lv_has ls 4 [(0, .ref t0), (1, .int x1), (2, .int x2)] → f_M_countLines_b76 r2 t0 x1 x2 h0 = some r → W p l e rm s m args below meth c H locs 0 0 (xq_MQ G s0 below r s rm.cells rm.slots) (F0 m 76 ls []) := by
  have hx := hc.x
  have hb := hc.b
  obtain ⟨hm1, hm2, hm3, hm4⟩ := id hrm
  intro t0 x1 x2 h0 H locs ls hR hLo hl heq
  unfold f_M_countLines_b76 at heq
  refine lv_aload_n hx hb d_M_countLines_76 rfl (lv_at hl 0 rfl) ?_
  refine x_gA hc hR fl_M_32 heq d_M_countLines_77 (fun v10 heq => ?_)
  refine lv_iload_n hx hb d_M_countLines_80 rfl (lv_at hl 1 rfl) ?_
  refine lv_aload_n hx hb d_M_countLines_81 rfl (lv_at hl 0 rfl) ?_
  refine x_gA hc hR fl_M_56 heq d_M_countLines_82 (fun v11 heq => ?_)
  refine lv_iload_n hx hb d_M_countLines_85 rfl (lv_at hl 2 rfl) ?_
  refine x_aI hc hR heq d_M_countLines_86 (fun v12 heq => ?_)
  refine lv_bipush (v := 13) hx hb d_M_countLines_87 (by decide) ?_
  refine lv_icmp_ne (tgt := 96) hx hb d_M_countLines_89 rfl (fun hq => ?_) (fun hq => ?_)
  · rw [if_neg hq] at heq
    refine lv_iconst (v := 0) hx hb d_M_countLines_96 (by decide) ?_
    refine W.widen (k := 0) (n := 0) (by omega) (by omega) ?_
    exact k_M_countLines_b97 _ hc hrm hr2 t0 x1 x2 0 x1 v10 h0 H locs ls hR hLo (lv_sub hl [0, 1, 2] rfl) heq
  · rw [if_pos hq] at heq
    refine lv_iconst (v := 1) hx hb d_M_countLines_92 (by decide) ?_
    refine lv_goto (tgt := 97) hx hb d_M_countLines_93 rfl ?_
    refine W.widen (k := 0) (n := 0) (by omega) (by omega) ?_
    exact k_M_countLines_b97 _ hc hrm hr2 t0 x1 x2 1 x1 v10 h0 H locs ls hR hLo (lv_sub hl [0, 1, 2] rfl) heq
set_option maxRecDepth 100000 in
set_option maxHeartbeats 4000000 in
theorem k_M_countLines_b58 {p : Program} {l : Launch} {e : Env} {s : State} {m : MethodId} {args : Array Value} {below : List Frame} {meth : Method} {c : Code} {s0 : State} {A0 : Array Value} {G : Gx_t} {r : Outcome × Hs_t} {rm : Room} (r2 : Nat → Int32 → Int32 → Hs_t → Rs_t) (hc : Cx_t p s m meth c s0 A0 l G y_M_countLines b_M_countLines 4 none []) (hrm : rm_Ok 0 0 0 0 rm) (hr2 : ∀ (t0 : Nat) (x1 : Int32) (x2 : Int32) (h0 : Hs_t) (H : Heap) (locs : List Loc) (ls : Array Slot), Rp_h G s0.heap h0 H → Lo_k s0 locs → lv_has ls 4 [(0, .ref t0), (1, .int x1), (2, .int x2)] → r2 t0 x1 x2 h0 = some r → W p l e rm s m args below meth c H locs 0 0 (xq_MQ G s0 below r s rm.cells rm.slots) (F0 m 2 ls [])) : ∀ (t0 : Nat) (x1 : Int32) (x2 : Int32) (x3 : Int32) (h0 : Hs_t) (H : Heap) (locs : List Loc) (ls : Array Slot), Rp_h G s0.heap h0 H → Lo_k s0 locs → lv_has ls 4 [(0, .ref t0), (1, .int x1), (2, .int x2), (3, .int x3)] → f_M_countLines_b58 r2 t0 x1 x2 x3 h0 = some r → W p l e rm s m args below meth c H locs 0 0 (xq_MQ G s0 below r s rm.cells rm.slots) (F0 m 58 ls []) := by
  have hx := hc.x
  have hb := hc.b
  obtain ⟨hm1, hm2, hm3, hm4⟩ := id hrm
  intro t0 x1 x2 x3 h0 H locs ls hR hLo hl heq
  unfold f_M_countLines_b58 at heq
  refine lv_iload_n hx hb d_M_countLines_58 rfl (lv_at hl 3 rfl) ?_
  refine lv_if_ne (tgt := 76) hx hb d_M_countLines_59 rfl (fun hq => ?_) (fun hq => ?_)
  · rw [if_neg hq] at heq
    refine W.widen (k := 0) (n := 0) (by omega) (by omega) ?_
    exact k_M_countLines_b76 _ hc hrm hr2 t0 x1 x2 h0 H locs ls hR hLo (lv_sub hl [0, 1, 2] rfl) heq
  · rw [if_pos hq] at heq
    refine lv_aload_n hx hb d_M_countLines_62 rfl (lv_at hl 0 rfl) ?_
    refine x_gA hc hR fl_M_26 heq d_M_countLines_63 (fun v13 heq => ?_)
    refine lv_iload_n hx hb d_M_countLines_66 rfl (lv_at hl 1 rfl) ?_
    refine lv_aload_n hx hb d_M_countLines_67 rfl (lv_at hl 0 rfl) ?_
    refine x_gA hc hR fl_M_26 heq d_M_countLines_68 (fun v14 heq => ?_)
    refine lv_iload_n hx hb d_M_countLines_71 rfl (lv_at hl 1 rfl) ?_
    refine x_aI hc hR heq d_M_countLines_72 (fun v15 heq => ?_)
    refine lv_iconst (v := 1) hx hb d_M_countLines_73 (by decide) ?_
    refine lv_iadd hx hb d_M_countLines_74 ?_
    refine x_sI hc hR hLo heq d_M_countLines_75 (fun h2 H locs hR hLo heq => ?_)
    refine W.widen (k := 0) (n := 0) (by omega) (by omega) ?_
    exact k_M_countLines_b76 _ hc hrm hr2 t0 x1 x2 h2 H locs ls hR hLo (lv_sub hl [0, 1, 2] rfl) heq
set_option maxRecDepth 100000 in
set_option maxHeartbeats 4000000 in
theorem k_M_countLines_b35 {p : Program} {l : Launch} {e : Env} {s : State} {m : MethodId} {args : Array Value} {below : List Frame} {meth : Method} {c : Code} {s0 : State} {A0 : Array Value} {G : Gx_t} {r : Outcome × Hs_t} {rm : Room} (r2 : Nat → Int32 → Int32 → Hs_t → Rs_t) (hc : Cx_t p s m meth c s0 A0 l G y_M_countLines b_M_countLines 4 none []) (hrm : rm_Ok 0 0 0 0 rm) (hr2 : ∀ (t0 : Nat) (x1 : Int32) (x2 : Int32) (h0 : Hs_t) (H : Heap) (locs : List Loc) (ls : Array Slot), Rp_h G s0.heap h0 H → Lo_k s0 locs → lv_has ls 4 [(0, .ref t0), (1, .int x1), (2, .int x2)] → r2 t0 x1 x2 h0 = some r → W p l e rm s m args below meth c H locs 0 0 (xq_MQ G s0 below r s rm.cells rm.slots) (F0 m 2 ls [])) : ∀ (t0 : Nat) (x1 : Int32) (x2 : Int32) (sv0 : Int32) (h0 : Hs_t) (H : Heap) (locs : List Loc) (ls : Array Slot), Rp_h G s0.heap h0 H → Lo_k s0 locs → lv_has ls 4 [(0, .ref t0), (1, .int x1), (2, .int x2)] → f_M_countLines_b35 r2 t0 x1 x2 sv0 h0 = some r → W p l e rm s m args below meth c H locs 0 0 (xq_MQ G s0 below r s rm.cells rm.slots) (F0 m 35 ls [.int sv0]) := by
  have hx := hc.x
  have hb := hc.b
  obtain ⟨hm1, hm2, hm3, hm4⟩ := id hrm
  intro t0 x1 x2 sv0 h0 H locs ls hR hLo hl heq
  unfold f_M_countLines_b35 at heq
  refine lv_istore_n (lv' := [(3, .int sv0), (0, .ref t0), (1, .int x1), (2, .int x2)]) hx hb d_M_countLines_35 rfl hl (by decide) rfl (fun ls hl => ?_)
  refine lv_aload_n hx hb d_M_countLines_36 rfl (lv_at hl 1 rfl) ?_
  refine x_gA hc hR fl_M_56 heq d_M_countLines_37 (fun v6 heq => ?_)
  refine lv_iload_n hx hb d_M_countLines_40 rfl (lv_at hl 3 rfl) ?_
  refine x_aI hc hR heq d_M_countLines_41 (fun v7 heq => ?_)
  refine lv_bipush (v := 10) hx hb d_M_countLines_42 (by decide) ?_
  refine lv_icmp_eq (tgt := 58) hx hb d_M_countLines_44 rfl (fun hq => ?_) (fun hq => ?_)
  · rw [if_pos hq] at heq
    refine W.widen (k := 0) (n := 0) (by omega) (by omega) ?_
    exact k_M_countLines_b58 _ hc hrm hr2 t0 x1 x2 sv0 h0 H locs ls hR hLo (lv_sub hl [1, 2, 3, 0] rfl) heq
  · rw [if_neg hq] at heq
    refine lv_aload_n hx hb d_M_countLines_47 rfl (lv_at hl 1 rfl) ?_
    refine x_gA hc hR fl_M_56 heq d_M_countLines_48 (fun v8 heq => ?_)
    refine lv_iload_n hx hb d_M_countLines_51 rfl (lv_at hl 3 rfl) ?_
    refine x_aI hc hR heq d_M_countLines_52 (fun v9 heq => ?_)
    refine lv_bipush (v := 13) hx hb d_M_countLines_53 (by decide) ?_
    refine lv_icmp_ne (tgt := 76) hx hb d_M_countLines_55 rfl (fun hq => ?_) (fun hq => ?_)
    · rw [if_neg hq] at heq
      refine W.widen (k := 0) (n := 0) (by omega) (by omega) ?_
      exact k_M_countLines_b76 _ hc hrm hr2 t0 x1 x2 h0 H locs ls hR hLo (lv_sub hl [1, 2, 3] rfl) heq
    · rw [if_pos hq] at heq
      refine W.widen (k := 0) (n := 0) (by omega) (by omega) ?_
      exact k_M_countLines_b58 _ hc hrm hr2 t0 x1 x2 sv0 h0 H locs ls hR hLo (lv_sub hl [1, 2, 3, 0] rfl) heq
set_option maxRecDepth 100000 in
set_option maxHeartbeats 4000000 in
theorem k_M_countLines_b34 {p : Program} {l : Launch} {e : Env} {s : State} {m : MethodId} {args : Array Value} {below : List Frame} {meth : Method} {c : Code} {s0 : State} {A0 : Array Value} {G : Gx_t} {r : Outcome × Hs_t} {rm : Room} (r2 : Nat → Int32 → Int32 → Hs_t → Rs_t) (hc : Cx_t p s m meth c s0 A0 l G y_M_countLines b_M_countLines 4 none []) (hrm : rm_Ok 0 0 0 0 rm) (hr2 : ∀ (t0 : Nat) (x1 : Int32) (x2 : Int32) (h0 : Hs_t) (H : Heap) (locs : List Loc) (ls : Array Slot), Rp_h G s0.heap h0 H → Lo_k s0 locs → lv_has ls 4 [(0, .ref t0), (1, .int x1), (2, .int x2)] → r2 t0 x1 x2 h0 = some r → W p l e rm s m args below meth c H locs 0 0 (xq_MQ G s0 below r s rm.cells rm.slots) (F0 m 2 ls [])) : ∀ (t0 : Nat) (x1 : Int32) (x2 : Int32) (h0 : Hs_t) (H : Heap) (locs : List Loc) (ls : Array Slot), Rp_h G s0.heap h0 H → Lo_k s0 locs → lv_has ls 4 [(0, .ref t0), (1, .int x1), (2, .int x2)] → f_M_countLines_b34 r2 t0 x1 x2 h0 = some r → W p l e rm s m args below meth c H locs 0 0 (xq_MQ G s0 below r s rm.cells rm.slots) (F0 m 34 ls []) := by
  have hx := hc.x
  have hb := hc.b
  obtain ⟨hm1, hm2, hm3, hm4⟩ := id hrm
  intro t0 x1 x2 h0 H locs ls hR hLo hl heq
  unfold f_M_countLines_b34 at heq
  refine lv_iconst (v := 0) hx hb d_M_countLines_34 (by decide) ?_
  refine W.widen (k := 0) (n := 0) (by omega) (by omega) ?_
  exact k_M_countLines_b35 _ hc hrm hr2 t0 x1 x2 0 h0 H locs ls hR hLo (lv_sub hl [0, 1, 2] rfl) heq
set_option maxRecDepth 100000 in
set_option maxHeartbeats 4000000 in
theorem k_M_countLines_b2 {p : Program} {l : Launch} {e : Env} {s : State} {m : MethodId} {args : Array Value} {below : List Frame} {meth : Method} {c : Code} {s0 : State} {A0 : Array Value} {G : Gx_t} {r : Outcome × Hs_t} {rm : Room} (hc : Cx_t p s m meth c s0 A0 l G y_M_countLines b_M_countLines 4 none []) (hrm : rm_Ok 0 0 0 0 rm) : ∀ (n : Nat) (t0 : Nat) (x1 : Int32) (x2 : Int32) (h0 : Hs_t) (H : Heap) (locs : List Loc) (ls : Array Slot), Rp_h G s0.heap h0 H → Lo_k s0 locs → lv_has ls 4 [(0, .ref t0), (1, .int x1), (2, .int x2)] → f_M_countLines_b2 n t0 x1 x2 h0 = some r → W p l e rm s m args below meth c H locs 0 0 (xq_MQ G s0 below r s rm.cells rm.slots) (F0 m 2 ls []) := by
  have hx := hc.x
  have hb := hc.b
  obtain ⟨hm1, hm2, hm3, hm4⟩ := id hrm
  intro n
  induction n with
  | zero =>
    intro t0 x1 x2 h0 H locs ls hR hLo hl heq
    unfold f_M_countLines_b2 at heq
    cases heq
  | succ n hr2 =>
    intro t0 x1 x2 h0 H locs ls hR hLo hl heq
    unfold f_M_countLines_b2 at heq
    refine lv_iload_n hx hb d_M_countLines_2 rfl (lv_at hl 2 rfl) ?_
    refine lv_aload_n hx hb d_M_countLines_3 rfl (lv_at hl 0 rfl) ?_
    refine x_gI hc hR fl_M_86 heq d_M_countLines_4 (fun v1 heq => ?_)
    refine lv_icmp_ge (tgt := 104) hx hb d_M_countLines_7 rfl (fun hq => ?_) (fun hq => ?_)
    · rw [if_pos hq] at heq
      exact x_vret hc hR hLo ⟨by omega, by omega⟩ heq d_M_countLines_104
    · rw [if_neg hq] at heq
      refine lv_aload_n hx hb d_M_countLines_10 rfl (lv_at hl 0 rfl) ?_
      refine x_gA hc hR fl_M_56 heq d_M_countLines_11 (fun v2 heq => ?_)
      refine lv_iload_n hx hb d_M_countLines_14 rfl (lv_at hl 2 rfl) ?_
      refine x_aI hc hR heq d_M_countLines_15 (fun v3 heq => ?_)
      refine lv_bipush (v := 10) hx hb d_M_countLines_16 (by decide) ?_
      refine lv_icmp_ne (tgt := 34) hx hb d_M_countLines_18 rfl (fun hq => ?_) (fun hq => ?_)
      · rw [if_neg hq] at heq
        refine W.widen (k := 0) (n := 0) (by omega) (by omega) ?_
        exact k_M_countLines_b34 _ hc hrm hr2 t0 x1 x2 h0 H locs ls hR hLo (lv_sub hl [0, 1, 2] rfl) heq
      · rw [if_pos hq] at heq
        refine lv_aload_n hx hb d_M_countLines_21 rfl (lv_at hl 0 rfl) ?_
        refine x_gA hc hR fl_M_32 heq d_M_countLines_22 (fun v4 heq => ?_)
        refine lv_iload_n hx hb d_M_countLines_25 rfl (lv_at hl 1 rfl) ?_
        refine x_aZ hc hR heq d_M_countLines_26 (fun v5 heq => ?_)
        refine lv_if_eq (tgt := 34) hx hb d_M_countLines_27 rfl (fun hq => ?_) (fun hq => ?_)
        · rw [if_pos hq] at heq
          refine W.widen (k := 0) (n := 0) (by omega) (by omega) ?_
          exact k_M_countLines_b34 _ hc hrm hr2 t0 x1 x2 h0 H locs ls hR hLo (lv_sub hl [0, 1, 2] rfl) heq
        · rw [if_neg hq] at heq
          refine lv_iconst (v := 1) hx hb d_M_countLines_30 (by decide) ?_
          refine lv_goto (tgt := 35) hx hb d_M_countLines_31 rfl ?_
          refine W.widen (k := 0) (n := 0) (by omega) (by omega) ?_
          exact k_M_countLines_b35 _ hc hrm hr2 t0 x1 x2 1 h0 H locs ls hR hLo (lv_sub hl [0, 1, 2] rfl) heq
set_option maxRecDepth 100000 in
set_option maxHeartbeats 4000000 in
theorem c_M_countLines {l : Launch} {s0 : State} {A0 : Array Value} {G : Gx_t} (hG : G_0 l s0 A0 G) (rm : Room) (hrm : rm_Ok 0 0 0 0 rm) (t0 : Nat) (x1 : Int32) (h0 : Hs_t) (r : Outcome × Hs_t) (heq : f_M_countLines t0 x1 h0 = some r) : M_X G s0 l y_M_countLines (.code y_M_countLines b_M_countLines 4 none) rm [.ref t0, .int x1] h0 r := by
  refine M_X.of (by decide) hG (fun p e s m below meth c H hc hR => ?_)
  have hx := hc.x
  have hb := hc.b
  obtain ⟨hm1, hm2, hm3, hm4⟩ := id hrm
  have hLo : Lo_k s0 [] := fun _ hq => absurd hq List.not_mem_nil
  have hl := lv_entry ([.ref t0, .int x1]) (n := 4) (Nat.le_of_ble_eq_true rfl)
  rw [lg_entry_eq]
  generalize (lg_sl ([.ref t0, .int x1]) ++ List.replicate (4 - (lg_sl ([.ref t0, .int x1])).length) Slot.unset).toArray = ls at hl ⊢
  have hl : lv_has ls 4 [(0, .ref t0), (1, .int x1)] := hl
  generalize hle : ([] : List Loc) = locs at hLo ⊢
  unfold f_M_countLines at heq
  refine lv_iconst (v := 0) hx hb d_M_countLines_0 (by decide) ?_
  refine lv_istore_n (lv' := [(2, .int 0), (0, .ref t0), (1, .int x1)]) hx hb d_M_countLines_1 rfl hl (by decide) rfl (fun ls hl => ?_)
  refine W.widen (k := 0) (n := 0) (by omega) (by omega) ?_
  exact k_M_countLines_b2 hc hrm fu_N t0 x1 0 h0 H locs ls hR hLo (lv_sub hl [1, 2, 0] rfl) heq
def rm_M_countLines : Room := { frames := 0, cells := 0, slots := 0, locals := 0 }
theorem rk_M_countLines : rm_Ok 0 0 0 0 rm_M_countLines := ⟨Nat.le_refl _, Nat.le_refl _, Nat.le_refl _, Nat.le_refl _⟩
def f_M_pass_b200 (h0 : Hs_t) : Rs_t := re_V h0
def f_M_pass_b134 : Nat → Nat → Int32 → Int32 → Hs_t → Rs_t
  | 0, _, _, _, _ => none
  | n + 1, t0, x1, x2, h0 => (fd_I [8] 20 h0 t0).bind fun v25 => if v25 ≤ x2 then ((fd_A [8] 14 h0 t0).bind fun v26 => (fd_A [8] 14 h0 t0).bind fun v27 => (ar_I h0 v27 x1).bind fun v28 => (fd_I [8] 20 h0 t0).bind fun v29 => (as_I h0 v26 x1 (v28 + v29)).bind fun h6 => (fd_A [8] 18 h6 t0).bind fun v30 => (ar_I h6 v30 x1).bind fun v31 => (ck_T [8] h6 t0).bind fun _ => bd_V (f_M_give t0 x1 v31 h6) (fun h7 => f_M_pass_b200 h7)) else ((fd_A [8] 13 h0 t0).bind fun v32 => (fd_A [8] 14 h0 t0).bind fun v33 => (ar_I h0 v33 x1).bind fun v34 => (fd_A [8] 19 h0 t0).bind fun v35 => (ar_I h0 v35 x2).bind fun v36 => (as_I h0 v32 (((64 * x1) + v34) + x2) v36).bind fun h8 => (f_M_pass_b134 n) t0 x1 (x2 + 1) h8)
def f_M_pass_b117 (t0 : Nat) (x1 : Int32) (h0 : Hs_t) : Rs_t := (ck_T [8] h0 t0).bind fun _ => bd_I (f_M_through t0 x1 h0) (fun v23 h5 => if v23 = 0 then ((fd_I [8] 20 h5 t0).bind fun v24 => if v24 ≤ 0 then (f_M_pass_b200 h5) else (f_M_pass_b134 fu_N t0 x1 0 h5)) else (f_M_pass_b200 h5))
def f_M_pass_b54 : Nat → Nat → Int32 → Int32 → Hs_t → Rs_t
  | 0, _, _, _, _ => none
  | n + 1, t0, x1, x2, h0 => (fd_I [8] 20 h0 t0).bind fun v11 => if v11 ≤ x2 then ((fd_A [8] 9 h0 t0).bind fun v12 => (fd_A [8] 9 h0 t0).bind fun v13 => (ar_I h0 v13 x1).bind fun v14 => (fd_I [8] 20 h0 t0).bind fun v15 => (as_I h0 v12 x1 (v14 + v15)).bind fun h3 => f_M_pass_b117 t0 x1 h3) else ((fd_A [8] 19 h0 t0).bind fun v16 => (fd_A [8] 19 h0 t0).bind fun v17 => (ar_I h0 v17 x2).bind fun v18 => (fd_A [8] 8 h0 t0).bind fun v19 => (ar_I h0 v19 x1).bind fun v20 => (fd_A [8] 9 h0 t0).bind fun v21 => (ar_I h0 v21 x1).bind fun v22 => (as_I h0 v16 x2 ((v18 ^^^ ((v20 + v22) + x2)) &&& 255)).bind fun h4 => (f_M_pass_b54 n) t0 x1 (x2 + 1) h4)
def f_M_pass_b42 (t0 : Nat) (x1 : Int32) (h0 : Hs_t) : Rs_t := (fd_A [8] 7 h0 t0).bind fun v9 => (ar_I h0 v9 x1).bind fun v10 => if v10 = 4 then (f_M_pass_b54 fu_N t0 x1 0 h0) else (f_M_pass_b117 t0 x1 h0)
def f_M_pass_b27 (t0 : Nat) (x1 : Int32) (h0 : Hs_t) : Rs_t := (fd_A [8] 7 h0 t0).bind fun v7 => (ar_I h0 v7 x1).bind fun v8 => if v8 = 5 then ((ck_T [8] h0 t0).bind fun _ => bd_V (f_M_countLines t0 x1 h0) (fun h2 => f_M_pass_b42 t0 x1 h2)) else (f_M_pass_b42 t0 x1 h0)
def f_M_pass (t0 : Nat) (x1 : Int32) (h0 : Hs_t) : Rs_t := (fd_A [8] 7 h0 t0).bind fun v1 => (ar_I h0 v1 x1).bind fun v2 => if v2 = 3 then ((fd_A [8] 9 h0 t0).bind fun v3 => (fd_A [8] 9 h0 t0).bind fun v4 => (ar_I h0 v4 x1).bind fun v5 => (fd_I [8] 20 h0 t0).bind fun v6 => (as_I h0 v3 x1 (v5 - v6)).bind fun h1 => f_M_pass_b27 t0 x1 h1) else (f_M_pass_b27 t0 x1 h0)
set_option maxRecDepth 100000 in
set_option maxHeartbeats 4000000 in
theorem k_M_pass_b200 {p : Program} {l : Launch} {e : Env} {s : State} {m : MethodId} {args : Array Value} {below : List Frame} {meth : Method} {c : Code} {s0 : State} {A0 : Array Value} {G : Gx_t} {r : Outcome × Hs_t} {rm : Room} (hc : Cx_t p s m meth c s0 A0 l G y_M_pass b_M_pass 3 none []) (hrm : rm_Ok 0 0 2 46 rm) : ∀  (h0 : Hs_t) (H : Heap) (locs : List Loc) (ls : Array Slot), Rp_h G s0.heap h0 H → Lo_k s0 locs → lv_has ls 3 [] → f_M_pass_b200  h0 = some r → W p l e rm s m args below meth c H locs 0 0 (xq_MQ G s0 below r s rm.cells rm.slots) (F0 m 200 ls []) := by
  have hx := hc.x
  have hb := hc.b
  obtain ⟨hm1, hm2, hm3, hm4⟩ := id hrm
  intro  h0 H locs ls hR hLo hl heq
  unfold f_M_pass_b200 at heq
  exact x_vret hc hR hLo ⟨by omega, by omega⟩ heq d_M_pass_200
set_option maxRecDepth 100000 in
set_option maxHeartbeats 4000000 in
theorem k_M_pass_b134 {p : Program} {l : Launch} {e : Env} {s : State} {m : MethodId} {args : Array Value} {below : List Frame} {meth : Method} {c : Code} {s0 : State} {A0 : Array Value} {G : Gx_t} {r : Outcome × Hs_t} {rm : Room} (hc : Cx_t p s m meth c s0 A0 l G y_M_pass b_M_pass 3 none []) (hrm : rm_Ok 0 0 2 46 rm) : ∀ (n : Nat) (t0 : Nat) (x1 : Int32) (x2 : Int32) (h0 : Hs_t) (H : Heap) (locs : List Loc) (ls : Array Slot), Rp_h G s0.heap h0 H → Lo_k s0 locs → lv_has ls 3 [(0, .ref t0), (1, .int x1), (2, .int x2)] → f_M_pass_b134 n t0 x1 x2 h0 = some r → W p l e rm s m args below meth c H locs 0 0 (xq_MQ G s0 below r s rm.cells rm.slots) (F0 m 134 ls []) := by
  have hx := hc.x
  have hb := hc.b
  obtain ⟨hm1, hm2, hm3, hm4⟩ := id hrm
  intro n
  induction n with
  | zero =>
    intro t0 x1 x2 h0 H locs ls hR hLo hl heq
    unfold f_M_pass_b134 at heq
    cases heq
  | succ n hr134 =>
    intro t0 x1 x2 h0 H locs ls hR hLo hl heq
    unfold f_M_pass_b134 at heq
    refine lv_iload_n hx hb d_M_pass_134 rfl (lv_at hl 2 rfl) ?_
    refine lv_aload_n hx hb d_M_pass_135 rfl (lv_at hl 0 rfl) ?_
    refine x_gI hc hR fl_M_86 heq d_M_pass_136 (fun v25 heq => ?_)
    refine lv_icmp_ge (tgt := 172) hx hb d_M_pass_139 rfl (fun hq => ?_) (fun hq => ?_)
    · rw [if_pos hq] at heq
      refine lv_aload_n hx hb d_M_pass_172 rfl (lv_at hl 0 rfl) ?_
      refine x_gA hc hR fl_M_41 heq d_M_pass_173 (fun v26 heq => ?_)
      refine lv_iload_n hx hb d_M_pass_176 rfl (lv_at hl 1 rfl) ?_
      refine lv_aload_n hx hb d_M_pass_177 rfl (lv_at hl 0 rfl) ?_
      refine x_gA hc hR fl_M_41 heq d_M_pass_178 (fun v27 heq => ?_)
      refine lv_iload_n hx hb d_M_pass_181 rfl (lv_at hl 1 rfl) ?_
      refine x_aI hc hR heq d_M_pass_182 (fun v28 heq => ?_)
      refine lv_aload_n hx hb d_M_pass_183 rfl (lv_at hl 0 rfl) ?_
      refine x_gI hc hR fl_M_86 heq d_M_pass_184 (fun v29 heq => ?_)
      refine lv_iadd hx hb d_M_pass_187 ?_
      refine x_sI hc hR hLo heq d_M_pass_188 (fun h6 H locs hR hLo heq => ?_)
      refine lv_aload_n hx hb d_M_pass_189 rfl (lv_at hl 0 rfl) ?_
      refine lv_iload_n hx hb d_M_pass_190 rfl (lv_at hl 1 rfl) ?_
      refine lv_aload_n hx hb d_M_pass_191 rfl (lv_at hl 0 rfl) ?_
      refine x_gA hc hR fl_M_53 heq d_M_pass_192 (fun v30 heq => ?_)
      refine lv_iload_n hx hb d_M_pass_195 rfl (lv_at hl 1 rfl) ?_
      refine x_aI hc hR heq d_M_pass_196 (fun v31 heq => ?_)
      refine x_ck heq (fun tt fs ha ht heq => ?_)
      obtain rfl : tt = 8 := by simpa using ht
      refine x_bV (mc := 0) (ms := 0) (st := []) hc hLo heq ⟨by omega, by omega⟩ (fun r9 h9 => x_runV hc (c_M_give hc.g rm_M_give rk_M_give _ _ _ _ _ h9) md_M_give hR ha rfl wd_837 wd_839 sp_15 hl.1 ml_M_give rfl (Nat.le_of_ble_eq_true rfl) d_M_pass_197 ⟨by show 1 + 1 ≤ _; omega, by show 8 + (4 + 11) + (23) ≤ _; omega⟩ ⟨by show 0 + 0 ≤ _; omega, by show 0 + 0 ≤ _; omega⟩) (fun h7 H locs hR hLo heq => ?_)
      refine W.widen (k := 0) (n := 0) (by omega) (by omega) ?_
      exact k_M_pass_b200 hc hrm h7 H locs ls hR hLo (lv_sub hl [] rfl) heq
    · rw [if_neg hq] at heq
      refine lv_aload_n hx hb d_M_pass_142 rfl (lv_at hl 0 rfl) ?_
      refine x_gA hc hR fl_M_38 heq d_M_pass_143 (fun v32 heq => ?_)
      refine lv_bipush (v := 64) hx hb d_M_pass_146 (by decide) ?_
      refine lv_iload_n hx hb d_M_pass_148 rfl (lv_at hl 1 rfl) ?_
      refine lv_imul hx hb d_M_pass_149 ?_
      refine lv_aload_n hx hb d_M_pass_150 rfl (lv_at hl 0 rfl) ?_
      refine x_gA hc hR fl_M_41 heq d_M_pass_151 (fun v33 heq => ?_)
      refine lv_iload_n hx hb d_M_pass_154 rfl (lv_at hl 1 rfl) ?_
      refine x_aI hc hR heq d_M_pass_155 (fun v34 heq => ?_)
      refine lv_iadd hx hb d_M_pass_156 ?_
      refine lv_iload_n hx hb d_M_pass_157 rfl (lv_at hl 2 rfl) ?_
      refine lv_iadd hx hb d_M_pass_158 ?_
      refine lv_aload_n hx hb d_M_pass_159 rfl (lv_at hl 0 rfl) ?_
      refine x_gA hc hR fl_M_56 heq d_M_pass_160 (fun v35 heq => ?_)
      refine lv_iload_n hx hb d_M_pass_163 rfl (lv_at hl 2 rfl) ?_
      refine x_aI hc hR heq d_M_pass_164 (fun v36 heq => ?_)
      refine x_sI hc hR hLo heq d_M_pass_165 (fun h8 H locs hR hLo heq => ?_)
      refine lv_iinc (k := 2) (v := (x2 + 1)) (lv' := [(2, .int (x2 + 1)), (0, .ref t0), (1, .int x1)]) hx hb d_M_pass_166 hl rfl rfl (by decide) rfl (fun ls hl => ?_)
      refine lv_goto (tgt := 134) hx hb d_M_pass_169 rfl ?_
      refine W.widen (k := 0) (n := 0) (by omega) (by omega) ?_
      exact hr134 t0 x1 (x2 + 1) h8 H locs ls hR hLo (lv_sub hl [1, 2, 0] rfl) heq
set_option maxRecDepth 100000 in
set_option maxHeartbeats 4000000 in
theorem k_M_pass_b117 {p : Program} {l : Launch} {e : Env} {s : State} {m : MethodId} {args : Array Value} {below : List Frame} {meth : Method} {c : Code} {s0 : State} {A0 : Array Value} {G : Gx_t} {r : Outcome × Hs_t} {rm : Room} (hc : Cx_t p s m meth c s0 A0 l G y_M_pass b_M_pass 3 none []) (hrm : rm_Ok 0 0 2 46 rm) : ∀ (t0 : Nat) (x1 : Int32) (h0 : Hs_t) (H : Heap) (locs : List Loc) (ls : Array Slot), Rp_h G s0.heap h0 H → Lo_k s0 locs → lv_has ls 3 [(0, .ref t0), (1, .int x1)] → f_M_pass_b117 t0 x1 h0 = some r → W p l e rm s m args below meth c H locs 0 0 (xq_MQ G s0 below r s rm.cells rm.slots) (F0 m 117 ls []) := by
  have hx := hc.x
  have hb := hc.b
  obtain ⟨hm1, hm2, hm3, hm4⟩ := id hrm
  intro t0 x1 h0 H locs ls hR hLo hl heq
  unfold f_M_pass_b117 at heq
  refine lv_aload_n hx hb d_M_pass_117 rfl (lv_at hl 0 rfl) ?_
  refine lv_iload_n hx hb d_M_pass_118 rfl (lv_at hl 1 rfl) ?_
  refine x_ck heq (fun tt fs ha ht heq => ?_)
  obtain rfl : tt = 8 := by simpa using ht
  refine x_bI (mc := 0) (ms := 0) (st := []) hc hLo heq ⟨by omega, by omega⟩ (fun r9 h9 => x_runV hc (c_M_through hc.g rm_M_through rk_M_through _ _ _ _ h9) md_M_through hR ha rfl wd_849 wd_851 sp_18 hl.1 ml_M_through rfl (Nat.le_of_ble_eq_true rfl) d_M_pass_119 ⟨by show 0 + 1 ≤ _; omega, by show 8 + (2 + 11) + (0) ≤ _; omega⟩ ⟨by show 0 + 0 ≤ _; omega, by show 0 + 0 ≤ _; omega⟩) (fun v23 h5 H locs hR hLo heq => ?_)
  refine lv_if_ne (tgt := 200) hx hb d_M_pass_122 rfl (fun hq => ?_) (fun hq => ?_)
  · rw [if_neg hq] at heq
    refine W.widen (k := 0) (n := 0) (by omega) (by omega) ?_
    exact k_M_pass_b200 hc hrm h5 H locs ls hR hLo (lv_sub hl [] rfl) heq
  · rw [if_pos hq] at heq
    refine lv_aload_n hx hb d_M_pass_125 rfl (lv_at hl 0 rfl) ?_
    refine x_gI hc hR fl_M_86 heq d_M_pass_126 (fun v24 heq => ?_)
    refine lv_if_le (tgt := 200) hx hb d_M_pass_129 rfl (fun hq => ?_) (fun hq => ?_)
    · rw [if_pos hq] at heq
      refine W.widen (k := 0) (n := 0) (by omega) (by omega) ?_
      exact k_M_pass_b200 hc hrm h5 H locs ls hR hLo (lv_sub hl [] rfl) heq
    · rw [if_neg hq] at heq
      refine lv_iconst (v := 0) hx hb d_M_pass_132 (by decide) ?_
      refine lv_istore_n (lv' := [(2, .int 0), (0, .ref t0), (1, .int x1)]) hx hb d_M_pass_133 rfl hl (by decide) rfl (fun ls hl => ?_)
      refine W.widen (k := 0) (n := 0) (by omega) (by omega) ?_
      exact k_M_pass_b134 hc hrm fu_N t0 x1 0 h5 H locs ls hR hLo (lv_sub hl [1, 2, 0] rfl) heq
set_option maxRecDepth 100000 in
set_option maxHeartbeats 4000000 in
theorem k_M_pass_b54 {p : Program} {l : Launch} {e : Env} {s : State} {m : MethodId} {args : Array Value} {below : List Frame} {meth : Method} {c : Code} {s0 : State} {A0 : Array Value} {G : Gx_t} {r : Outcome × Hs_t} {rm : Room} (hc : Cx_t p s m meth c s0 A0 l G y_M_pass b_M_pass 3 none []) (hrm : rm_Ok 0 0 2 46 rm) : ∀ (n : Nat) (t0 : Nat) (x1 : Int32) (x2 : Int32) (h0 : Hs_t) (H : Heap) (locs : List Loc) (ls : Array Slot), Rp_h G s0.heap h0 H → Lo_k s0 locs → lv_has ls 3 [(0, .ref t0), (1, .int x1), (2, .int x2)] → f_M_pass_b54 n t0 x1 x2 h0 = some r → W p l e rm s m args below meth c H locs 0 0 (xq_MQ G s0 below r s rm.cells rm.slots) (F0 m 54 ls []) := by
  have hx := hc.x
  have hb := hc.b
  obtain ⟨hm1, hm2, hm3, hm4⟩ := id hrm
  intro n
  induction n with
  | zero =>
    intro t0 x1 x2 h0 H locs ls hR hLo hl heq
    unfold f_M_pass_b54 at heq
    cases heq
  | succ n hr54 =>
    intro t0 x1 x2 h0 H locs ls hR hLo hl heq
    unfold f_M_pass_b54 at heq
    refine lv_iload_n hx hb d_M_pass_54 rfl (lv_at hl 2 rfl) ?_
    refine lv_aload_n hx hb d_M_pass_55 rfl (lv_at hl 0 rfl) ?_
    refine x_gI hc hR fl_M_86 heq d_M_pass_56 (fun v11 heq => ?_)
    refine lv_icmp_ge (tgt := 100) hx hb d_M_pass_59 rfl (fun hq => ?_) (fun hq => ?_)
    · rw [if_pos hq] at heq
      refine lv_aload_n hx hb d_M_pass_100 rfl (lv_at hl 0 rfl) ?_
      refine x_gA hc hR fl_M_26 heq d_M_pass_101 (fun v12 heq => ?_)
      refine lv_iload_n hx hb d_M_pass_104 rfl (lv_at hl 1 rfl) ?_
      refine lv_aload_n hx hb d_M_pass_105 rfl (lv_at hl 0 rfl) ?_
      refine x_gA hc hR fl_M_26 heq d_M_pass_106 (fun v13 heq => ?_)
      refine lv_iload_n hx hb d_M_pass_109 rfl (lv_at hl 1 rfl) ?_
      refine x_aI hc hR heq d_M_pass_110 (fun v14 heq => ?_)
      refine lv_aload_n hx hb d_M_pass_111 rfl (lv_at hl 0 rfl) ?_
      refine x_gI hc hR fl_M_86 heq d_M_pass_112 (fun v15 heq => ?_)
      refine lv_iadd hx hb d_M_pass_115 ?_
      refine x_sI hc hR hLo heq d_M_pass_116 (fun h3 H locs hR hLo heq => ?_)
      refine W.widen (k := 0) (n := 0) (by omega) (by omega) ?_
      exact k_M_pass_b117 hc hrm t0 x1 h3 H locs ls hR hLo (lv_sub hl [0, 1] rfl) heq
    · rw [if_neg hq] at heq
      refine lv_aload_n hx hb d_M_pass_62 rfl (lv_at hl 0 rfl) ?_
      refine x_gA hc hR fl_M_56 heq d_M_pass_63 (fun v16 heq => ?_)
      refine lv_iload_n hx hb d_M_pass_66 rfl (lv_at hl 2 rfl) ?_
      refine lv_aload_n hx hb d_M_pass_67 rfl (lv_at hl 0 rfl) ?_
      refine x_gA hc hR fl_M_56 heq d_M_pass_68 (fun v17 heq => ?_)
      refine lv_iload_n hx hb d_M_pass_71 rfl (lv_at hl 2 rfl) ?_
      refine x_aI hc hR heq d_M_pass_72 (fun v18 heq => ?_)
      refine lv_aload_n hx hb d_M_pass_73 rfl (lv_at hl 0 rfl) ?_
      refine x_gA hc hR fl_M_23 heq d_M_pass_74 (fun v19 heq => ?_)
      refine lv_iload_n hx hb d_M_pass_77 rfl (lv_at hl 1 rfl) ?_
      refine x_aI hc hR heq d_M_pass_78 (fun v20 heq => ?_)
      refine lv_aload_n hx hb d_M_pass_79 rfl (lv_at hl 0 rfl) ?_
      refine x_gA hc hR fl_M_26 heq d_M_pass_80 (fun v21 heq => ?_)
      refine lv_iload_n hx hb d_M_pass_83 rfl (lv_at hl 1 rfl) ?_
      refine x_aI hc hR heq d_M_pass_84 (fun v22 heq => ?_)
      refine lv_iadd hx hb d_M_pass_85 ?_
      refine lv_iload_n hx hb d_M_pass_86 rfl (lv_at hl 2 rfl) ?_
      refine lv_iadd hx hb d_M_pass_87 ?_
      refine lv_ixor hx hb d_M_pass_88 ?_
      refine lv_sipush (v := 255) hx hb d_M_pass_89 (by decide) ?_
      refine lv_iand hx hb d_M_pass_92 ?_
      refine x_sI hc hR hLo heq d_M_pass_93 (fun h4 H locs hR hLo heq => ?_)
      refine lv_iinc (k := 2) (v := (x2 + 1)) (lv' := [(2, .int (x2 + 1)), (0, .ref t0), (1, .int x1)]) hx hb d_M_pass_94 hl rfl rfl (by decide) rfl (fun ls hl => ?_)
      refine lv_goto (tgt := 54) hx hb d_M_pass_97 rfl ?_
      refine W.widen (k := 0) (n := 0) (by omega) (by omega) ?_
      exact hr54 t0 x1 (x2 + 1) h4 H locs ls hR hLo (lv_sub hl [1, 2, 0] rfl) heq
set_option maxRecDepth 100000 in
set_option maxHeartbeats 4000000 in
theorem k_M_pass_b42 {p : Program} {l : Launch} {e : Env} {s : State} {m : MethodId} {args : Array Value} {below : List Frame} {meth : Method} {c : Code} {s0 : State} {A0 : Array Value} {G : Gx_t} {r : Outcome × Hs_t} {rm : Room} (hc : Cx_t p s m meth c s0 A0 l G y_M_pass b_M_pass 3 none []) (hrm : rm_Ok 0 0 2 46 rm) : ∀ (t0 : Nat) (x1 : Int32) (h0 : Hs_t) (H : Heap) (locs : List Loc) (ls : Array Slot), Rp_h G s0.heap h0 H → Lo_k s0 locs → lv_has ls 3 [(0, .ref t0), (1, .int x1)] → f_M_pass_b42 t0 x1 h0 = some r → W p l e rm s m args below meth c H locs 0 0 (xq_MQ G s0 below r s rm.cells rm.slots) (F0 m 42 ls []) := by
  have hx := hc.x
  have hb := hc.b
  obtain ⟨hm1, hm2, hm3, hm4⟩ := id hrm
  intro t0 x1 h0 H locs ls hR hLo hl heq
  unfold f_M_pass_b42 at heq
  refine lv_aload_n hx hb d_M_pass_42 rfl (lv_at hl 0 rfl) ?_
  refine x_gA hc hR fl_M_20 heq d_M_pass_43 (fun v9 heq => ?_)
  refine lv_iload_n hx hb d_M_pass_46 rfl (lv_at hl 1 rfl) ?_
  refine x_aI hc hR heq d_M_pass_47 (fun v10 heq => ?_)
  refine lv_iconst (v := 4) hx hb d_M_pass_48 (by decide) ?_
  refine lv_icmp_ne (tgt := 117) hx hb d_M_pass_49 rfl (fun hq => ?_) (fun hq => ?_)
  · rw [if_neg hq] at heq
    refine W.widen (k := 0) (n := 0) (by omega) (by omega) ?_
    exact k_M_pass_b117 hc hrm t0 x1 h0 H locs ls hR hLo (lv_sub hl [0, 1] rfl) heq
  · rw [if_pos hq] at heq
    refine lv_iconst (v := 0) hx hb d_M_pass_52 (by decide) ?_
    refine lv_istore_n (lv' := [(2, .int 0), (0, .ref t0), (1, .int x1)]) hx hb d_M_pass_53 rfl hl (by decide) rfl (fun ls hl => ?_)
    refine W.widen (k := 0) (n := 0) (by omega) (by omega) ?_
    exact k_M_pass_b54 hc hrm fu_N t0 x1 0 h0 H locs ls hR hLo (lv_sub hl [1, 2, 0] rfl) heq
set_option maxRecDepth 100000 in
set_option maxHeartbeats 4000000 in
theorem k_M_pass_b27 {p : Program} {l : Launch} {e : Env} {s : State} {m : MethodId} {args : Array Value} {below : List Frame} {meth : Method} {c : Code} {s0 : State} {A0 : Array Value} {G : Gx_t} {r : Outcome × Hs_t} {rm : Room} (hc : Cx_t p s m meth c s0 A0 l G y_M_pass b_M_pass 3 none []) (hrm : rm_Ok 0 0 2 46 rm) : ∀ (t0 : Nat) (x1 : Int32) (h0 : Hs_t) (H : Heap) (locs : List Loc) (ls : Array Slot), Rp_h G s0.heap h0 H → Lo_k s0 locs → lv_has ls 3 [(0, .ref t0), (1, .int x1)] → f_M_pass_b27 t0 x1 h0 = some r → W p l e rm s m args below meth c H locs 0 0 (xq_MQ G s0 below r s rm.cells rm.slots) (F0 m 27 ls []) := by
  have hx := hc.x
  have hb := hc.b
  obtain ⟨hm1, hm2, hm3, hm4⟩ := id hrm
  intro t0 x1 h0 H locs ls hR hLo hl heq
  unfold f_M_pass_b27 at heq
  refine lv_aload_n hx hb d_M_pass_27 rfl (lv_at hl 0 rfl) ?_
  refine x_gA hc hR fl_M_20 heq d_M_pass_28 (fun v7 heq => ?_)
  refine lv_iload_n hx hb d_M_pass_31 rfl (lv_at hl 1 rfl) ?_
  refine x_aI hc hR heq d_M_pass_32 (fun v8 heq => ?_)
  refine lv_iconst (v := 5) hx hb d_M_pass_33 (by decide) ?_
  refine lv_icmp_ne (tgt := 42) hx hb d_M_pass_34 rfl (fun hq => ?_) (fun hq => ?_)
  · rw [if_neg hq] at heq
    refine W.widen (k := 0) (n := 0) (by omega) (by omega) ?_
    exact k_M_pass_b42 hc hrm t0 x1 h0 H locs ls hR hLo (lv_sub hl [0, 1] rfl) heq
  · rw [if_pos hq] at heq
    refine lv_aload_n hx hb d_M_pass_37 rfl (lv_at hl 0 rfl) ?_
    refine lv_iload_n hx hb d_M_pass_38 rfl (lv_at hl 1 rfl) ?_
    refine x_ck heq (fun tt fs ha ht heq => ?_)
    obtain rfl : tt = 8 := by simpa using ht
    refine x_bV (mc := 0) (ms := 0) (st := []) hc hLo heq ⟨by omega, by omega⟩ (fun r9 h9 => x_runV hc (c_M_countLines hc.g rm_M_countLines rk_M_countLines _ _ _ _ h9) md_M_countLines hR ha rfl wd_861 wd_863 sp_21 hl.1 ml_M_countLines rfl (Nat.le_of_ble_eq_true rfl) d_M_pass_39 ⟨by show 0 + 1 ≤ _; omega, by show 8 + (4 + 11) + (0) ≤ _; omega⟩ ⟨by show 0 + 0 ≤ _; omega, by show 0 + 0 ≤ _; omega⟩) (fun h2 H locs hR hLo heq => ?_)
    refine W.widen (k := 0) (n := 0) (by omega) (by omega) ?_
    exact k_M_pass_b42 hc hrm t0 x1 h2 H locs ls hR hLo (lv_sub hl [0, 1] rfl) heq
set_option maxRecDepth 100000 in
set_option maxHeartbeats 4000000 in
theorem c_M_pass {l : Launch} {s0 : State} {A0 : Array Value} {G : Gx_t} (hG : G_0 l s0 A0 G) (rm : Room) (hrm : rm_Ok 0 0 2 46 rm) (t0 : Nat) (x1 : Int32) (h0 : Hs_t) (r : Outcome × Hs_t) (heq : f_M_pass t0 x1 h0 = some r) : M_X G s0 l y_M_pass (.code y_M_pass b_M_pass 3 none) rm [.ref t0, .int x1] h0 r := by
  refine M_X.of (by decide) hG (fun p e s m below meth c H hc hR => ?_)
  have hx := hc.x
  have hb := hc.b
  obtain ⟨hm1, hm2, hm3, hm4⟩ := id hrm
  have hLo : Lo_k s0 [] := fun _ hq => absurd hq List.not_mem_nil
  have hl := lv_entry ([.ref t0, .int x1]) (n := 3) (Nat.le_of_ble_eq_true rfl)
  rw [lg_entry_eq]
  generalize (lg_sl ([.ref t0, .int x1]) ++ List.replicate (3 - (lg_sl ([.ref t0, .int x1])).length) Slot.unset).toArray = ls at hl ⊢
  have hl : lv_has ls 3 [(0, .ref t0), (1, .int x1)] := hl
  generalize hle : ([] : List Loc) = locs at hLo ⊢
  unfold f_M_pass at heq
  refine lv_aload_n hx hb d_M_pass_0 rfl (lv_at hl 0 rfl) ?_
  refine x_gA hc hR fl_M_20 heq d_M_pass_1 (fun v1 heq => ?_)
  refine lv_iload_n hx hb d_M_pass_4 rfl (lv_at hl 1 rfl) ?_
  refine x_aI hc hR heq d_M_pass_5 (fun v2 heq => ?_)
  refine lv_iconst (v := 3) hx hb d_M_pass_6 (by decide) ?_
  refine lv_icmp_ne (tgt := 27) hx hb d_M_pass_7 rfl (fun hq => ?_) (fun hq => ?_)
  · rw [if_neg hq] at heq
    refine W.widen (k := 0) (n := 0) (by omega) (by omega) ?_
    exact k_M_pass_b27 hc hrm t0 x1 h0 H locs ls hR hLo (lv_sub hl [0, 1] rfl) heq
  · rw [if_pos hq] at heq
    refine lv_aload_n hx hb d_M_pass_10 rfl (lv_at hl 0 rfl) ?_
    refine x_gA hc hR fl_M_26 heq d_M_pass_11 (fun v3 heq => ?_)
    refine lv_iload_n hx hb d_M_pass_14 rfl (lv_at hl 1 rfl) ?_
    refine lv_aload_n hx hb d_M_pass_15 rfl (lv_at hl 0 rfl) ?_
    refine x_gA hc hR fl_M_26 heq d_M_pass_16 (fun v4 heq => ?_)
    refine lv_iload_n hx hb d_M_pass_19 rfl (lv_at hl 1 rfl) ?_
    refine x_aI hc hR heq d_M_pass_20 (fun v5 heq => ?_)
    refine lv_aload_n hx hb d_M_pass_21 rfl (lv_at hl 0 rfl) ?_
    refine x_gI hc hR fl_M_86 heq d_M_pass_22 (fun v6 heq => ?_)
    refine lv_isub hx hb d_M_pass_25 ?_
    refine x_sI hc hR hLo heq d_M_pass_26 (fun h1 H locs hR hLo heq => ?_)
    refine W.widen (k := 0) (n := 0) (by omega) (by omega) ?_
    exact k_M_pass_b27 hc hrm t0 x1 h1 H locs ls hR hLo (lv_sub hl [0, 1] rfl) heq
def rm_M_pass : Room := { frames := 2, cells := 0, slots := 0, locals := 46 }
theorem rk_M_pass : rm_Ok 0 0 2 46 rm_M_pass := ⟨Nat.le_refl _, Nat.le_refl _, Nat.le_refl _, Nat.le_refl _⟩
def f_M_request_b148 : Nat → Nat → Int32 → Hs_t → Rs_t
  | 0, _, _, _ => none
  | n + 1, t0, x5, h0 => (fd_I [8] 6 h0 t0).bind fun v16 => if v16 ≤ x5 then (re_Z 1 h0) else ((ck_T [8] h0 t0).bind fun _ => bd_V (f_M_pass t0 x5 h0) (fun h8 => (f_M_request_b148 n) t0 (x5 + 1) h8))
def f_M_request_b143 (t0 : Nat) (x2 : Int32) (h0 : Hs_t) : Rs_t := f_M_request_b148 fu_N t0 (x2 + 1) h0
def f_M_request_b96 : Nat → Nat → Int32 → Int32 → Hs_t → Rs_t
  | 0, _, _, _, _ => none
  | n + 1, t0, x2, x6, h0 => (fd_I [8] 20 h0 t0).bind fun v9 => if v9 ≤ x6 then ((fd_I [8] 5 h0 t0).bind fun v10 => (fd_I [8] 20 h0 t0).bind fun v11 => (pt_V [8] 5 h0 t0 (.int (v10 + v11))).bind fun h6 => f_M_request_b143 t0 x2 h6) else ((fd_A [8] 19 h0 t0).bind fun v12 => (fd_A [8] 1 h0 t0).bind fun v13 => (fd_I [8] 5 h0 t0).bind fun v14 => (ar_I h0 v13 (v14 + x6)).bind fun v15 => (as_I h0 v12 x6 v15).bind fun h7 => (f_M_request_b96 n) t0 x2 (x6 + 1) h7)
def f_M_request_b90 (t0 : Nat) (x2 : Int32) (sv0 : Int32) (sv1 : Nat) (h0 : Hs_t) : Rs_t := (pt_V [8] 20 h0 sv1 (.int sv0)).bind fun h5 => f_M_request_b96 fu_N t0 x2 0 h5
def f_M_request_b52 (t0 : Nat) (x2 : Int32) (x3 : Int32) (x4 : Int32) (h0 : Hs_t) : Rs_t := if x4 = 0 then ((fd_A [8] 3 h0 t0).bind fun v5 => (fd_I [8] 5 h0 t0).bind fun v6 => (ar_Z h0 v5 v6).bind fun v7 => if v7 = 0 then ((ck_T [8] h0 t0).bind fun _ => bd_I (f_M_portionLeft t0 h0) (fun v8 h4 => if v8 ≤ x3 then (f_M_request_b90 t0 x2 v8 t0 h4) else (f_M_request_b90 t0 x2 x3 t0 h4))) else (re_Z 0 h0)) else (f_M_request_b143 t0 x2 h0)
def f_M_request_b12 : Nat → Nat → Int32 → Int32 → Int32 → Hs_t → Rs_t
  | 0, _, _, _, _, _ => none
  | n + 1, t0, x2, x3, x4, h0 => if x2 < 0 then (f_M_request_b52 t0 x2 x3 x4 h0) else (if x4 = 0 then ((fd_A [8] 18 h0 t0).bind fun v2 => (as_I h0 v2 x2 x3).bind fun h1 => (ck_T [8] h1 t0).bind fun _ => bd_I (f_M_answers t0 x2 h1) (fun v3 h2 => if v3 = 0 then ((ck_T [8] h2 t0).bind fun _ => bd_I (f_M_below t0 x2 h2) (fun v4 h3 => (f_M_request_b12 n) t0 (x2 + (-1)) v4 v3 h3)) else ((f_M_request_b12 n) t0 x2 x3 v3 h2))) else (f_M_request_b52 t0 x2 x3 x4 h0))
def f_M_request (t0 : Nat) (x1 : Int32) (h0 : Hs_t) : Rs_t := (fd_I [8] 6 h0 t0).bind fun v1 => f_M_request_b12 fu_N t0 (v1 - 1) x1 0 h0
set_option maxRecDepth 100000 in
set_option maxHeartbeats 4000000 in
theorem k_M_request_b148 {p : Program} {l : Launch} {e : Env} {s : State} {m : MethodId} {args : Array Value} {below : List Frame} {meth : Method} {c : Code} {s0 : State} {A0 : Array Value} {G : Gx_t} {r : Outcome × Hs_t} {rm : Room} (hc : Cx_t p s m meth c s0 A0 l G y_M_request b_M_request 7 (some .boolean) []) (hrm : rm_Ok 0 0 3 68 rm) : ∀ (n : Nat) (t0 : Nat) (x5 : Int32) (h0 : Hs_t) (H : Heap) (locs : List Loc) (ls : Array Slot), Rp_h G s0.heap h0 H → Lo_k s0 locs → lv_has ls 7 [(0, .ref t0), (5, .int x5)] → f_M_request_b148 n t0 x5 h0 = some r → W p l e rm s m args below meth c H locs 0 0 (xq_MQ G s0 below r s rm.cells rm.slots) (F0 m 148 ls []) := by
  have hx := hc.x
  have hb := hc.b
  obtain ⟨hm1, hm2, hm3, hm4⟩ := id hrm
  intro n
  induction n with
  | zero =>
    intro t0 x5 h0 H locs ls hR hLo hl heq
    unfold f_M_request_b148 at heq
    cases heq
  | succ n hr148 =>
    intro t0 x5 h0 H locs ls hR hLo hl heq
    unfold f_M_request_b148 at heq
    refine lv_iload hx hb d_M_request_148 (lv_at hl 1 rfl) ?_
    refine lv_aload_n hx hb d_M_request_150 rfl (lv_at hl 0 rfl) ?_
    refine x_gI hc hR fl_M_79 heq d_M_request_151 (fun v16 heq => ?_)
    refine lv_icmp_ge (tgt := 169) hx hb d_M_request_154 rfl (fun hq => ?_) (fun hq => ?_)
    · rw [if_pos hq] at heq
      refine lv_iconst (v := 1) hx hb d_M_request_169 (by decide) ?_
      exact x_zret hc hR hLo ⟨by omega, by omega⟩ heq d_M_request_170
    · rw [if_neg hq] at heq
      refine lv_aload_n hx hb d_M_request_157 rfl (lv_at hl 0 rfl) ?_
      refine lv_iload hx hb d_M_request_158 (lv_at hl 1 rfl) ?_
      refine x_ck heq (fun tt fs ha ht heq => ?_)
      obtain rfl : tt = 8 := by simpa using ht
      refine x_bV (mc := 0) (ms := 0) (st := []) hc hLo heq ⟨by omega, by omega⟩ (fun r9 h9 => x_runV hc (c_M_pass hc.g rm_M_pass rk_M_pass _ _ _ _ h9) md_M_pass hR ha rfl wd_857 wd_859 sp_20 hl.1 ml_M_pass rfl (Nat.le_of_ble_eq_true rfl) d_M_request_160 ⟨by show 2 + 1 ≤ _; omega, by show 8 + (3 + 11) + (46) ≤ _; omega⟩ ⟨by show 0 + 0 ≤ _; omega, by show 0 + 0 ≤ _; omega⟩) (fun h8 H locs hR hLo heq => ?_)
      refine lv_iinc (k := 1) (v := (x5 + 1)) (lv' := [(5, .int (x5 + 1)), (0, .ref t0)]) hx hb d_M_request_163 hl rfl rfl (by decide) rfl (fun ls hl => ?_)
      refine lv_goto (tgt := 148) hx hb d_M_request_166 rfl ?_
      refine W.widen (k := 0) (n := 0) (by omega) (by omega) ?_
      exact hr148 t0 (x5 + 1) h8 H locs ls hR hLo (lv_sub hl [1, 0] rfl) heq
set_option maxRecDepth 100000 in
set_option maxHeartbeats 4000000 in
theorem k_M_request_b143 {p : Program} {l : Launch} {e : Env} {s : State} {m : MethodId} {args : Array Value} {below : List Frame} {meth : Method} {c : Code} {s0 : State} {A0 : Array Value} {G : Gx_t} {r : Outcome × Hs_t} {rm : Room} (hc : Cx_t p s m meth c s0 A0 l G y_M_request b_M_request 7 (some .boolean) []) (hrm : rm_Ok 0 0 3 68 rm) : ∀ (t0 : Nat) (x2 : Int32) (h0 : Hs_t) (H : Heap) (locs : List Loc) (ls : Array Slot), Rp_h G s0.heap h0 H → Lo_k s0 locs → lv_has ls 7 [(0, .ref t0), (2, .int x2)] → f_M_request_b143 t0 x2 h0 = some r → W p l e rm s m args below meth c H locs 0 0 (xq_MQ G s0 below r s rm.cells rm.slots) (F0 m 143 ls []) := by
  have hx := hc.x
  have hb := hc.b
  obtain ⟨hm1, hm2, hm3, hm4⟩ := id hrm
  intro t0 x2 h0 H locs ls hR hLo hl heq
  unfold f_M_request_b143 at heq
  refine lv_iload_n hx hb d_M_request_143 rfl (lv_at hl 1 rfl) ?_
  refine lv_iconst (v := 1) hx hb d_M_request_144 (by decide) ?_
  refine lv_iadd hx hb d_M_request_145 ?_
  refine lv_istore (lv' := [(5, .int (x2 + 1)), (0, .ref t0), (2, .int x2)]) hx hb d_M_request_146 hl (by decide) rfl (fun ls hl => ?_)
  refine W.widen (k := 0) (n := 0) (by omega) (by omega) ?_
  exact k_M_request_b148 hc hrm fu_N t0 (x2 + 1) h0 H locs ls hR hLo (lv_sub hl [1, 0] rfl) heq
set_option maxRecDepth 100000 in
set_option maxHeartbeats 4000000 in
theorem k_M_request_b96 {p : Program} {l : Launch} {e : Env} {s : State} {m : MethodId} {args : Array Value} {below : List Frame} {meth : Method} {c : Code} {s0 : State} {A0 : Array Value} {G : Gx_t} {r : Outcome × Hs_t} {rm : Room} (hc : Cx_t p s m meth c s0 A0 l G y_M_request b_M_request 7 (some .boolean) []) (hrm : rm_Ok 0 0 3 68 rm) : ∀ (n : Nat) (t0 : Nat) (x2 : Int32) (x6 : Int32) (h0 : Hs_t) (H : Heap) (locs : List Loc) (ls : Array Slot), Rp_h G s0.heap h0 H → Lo_k s0 locs → lv_has ls 7 [(0, .ref t0), (2, .int x2), (6, .int x6)] → f_M_request_b96 n t0 x2 x6 h0 = some r → W p l e rm s m args below meth c H locs 0 0 (xq_MQ G s0 below r s rm.cells rm.slots) (F0 m 96 ls []) := by
  have hx := hc.x
  have hb := hc.b
  obtain ⟨hm1, hm2, hm3, hm4⟩ := id hrm
  intro n
  induction n with
  | zero =>
    intro t0 x2 x6 h0 H locs ls hR hLo hl heq
    unfold f_M_request_b96 at heq
    cases heq
  | succ n hr96 =>
    intro t0 x2 x6 h0 H locs ls hR hLo hl heq
    unfold f_M_request_b96 at heq
    refine lv_iload hx hb d_M_request_96 (lv_at hl 2 rfl) ?_
    refine lv_aload_n hx hb d_M_request_98 rfl (lv_at hl 0 rfl) ?_
    refine x_gI hc hR fl_M_86 heq d_M_request_99 (fun v9 heq => ?_)
    refine lv_icmp_ge (tgt := 130) hx hb d_M_request_102 rfl (fun hq => ?_) (fun hq => ?_)
    · rw [if_pos hq] at heq
      refine lv_aload_n hx hb d_M_request_130 rfl (lv_at hl 0 rfl) ?_
      refine lv_aload_n hx hb d_M_request_131 rfl (lv_at hl 0 rfl) ?_
      refine x_gI hc hR fl_M_72 heq d_M_request_132 (fun v10 heq => ?_)
      refine lv_aload_n hx hb d_M_request_135 rfl (lv_at hl 0 rfl) ?_
      refine x_gI hc hR fl_M_86 heq d_M_request_136 (fun v11 heq => ?_)
      refine lv_iadd hx hb d_M_request_139 ?_
      refine x_pV hc hR hLo fl_M_72 (Or.inl rfl) rfl rfl heq d_M_request_140 (fun h6 H locs hR hLo heq => ?_)
      refine W.widen (k := 0) (n := 0) (by omega) (by omega) ?_
      exact k_M_request_b143 hc hrm t0 x2 h6 H locs ls hR hLo (lv_sub hl [0, 1] rfl) heq
    · rw [if_neg hq] at heq
      refine lv_aload_n hx hb d_M_request_105 rfl (lv_at hl 0 rfl) ?_
      refine x_gA hc hR fl_M_56 heq d_M_request_106 (fun v12 heq => ?_)
      refine lv_iload hx hb d_M_request_109 (lv_at hl 2 rfl) ?_
      refine lv_aload_n hx hb d_M_request_111 rfl (lv_at hl 0 rfl) ?_
      refine x_gA hc hR fl_M_7 heq d_M_request_112 (fun v13 heq => ?_)
      refine lv_aload_n hx hb d_M_request_115 rfl (lv_at hl 0 rfl) ?_
      refine x_gI hc hR fl_M_72 heq d_M_request_116 (fun v14 heq => ?_)
      refine lv_iload hx hb d_M_request_119 (lv_at hl 2 rfl) ?_
      refine lv_iadd hx hb d_M_request_121 ?_
      refine x_aI hc hR heq d_M_request_122 (fun v15 heq => ?_)
      refine x_sI hc hR hLo heq d_M_request_123 (fun h7 H locs hR hLo heq => ?_)
      refine lv_iinc (k := 2) (v := (x6 + 1)) (lv' := [(6, .int (x6 + 1)), (0, .ref t0), (2, .int x2)]) hx hb d_M_request_124 hl rfl rfl (by decide) rfl (fun ls hl => ?_)
      refine lv_goto (tgt := 96) hx hb d_M_request_127 rfl ?_
      refine W.widen (k := 0) (n := 0) (by omega) (by omega) ?_
      exact hr96 t0 x2 (x6 + 1) h7 H locs ls hR hLo (lv_sub hl [1, 2, 0] rfl) heq
set_option maxRecDepth 100000 in
set_option maxHeartbeats 4000000 in
theorem k_M_request_b90 {p : Program} {l : Launch} {e : Env} {s : State} {m : MethodId} {args : Array Value} {below : List Frame} {meth : Method} {c : Code} {s0 : State} {A0 : Array Value} {G : Gx_t} {r : Outcome × Hs_t} {rm : Room} (hc : Cx_t p s m meth c s0 A0 l G y_M_request b_M_request 7 (some .boolean) []) (hrm : rm_Ok 0 0 3 68 rm) : ∀ (t0 : Nat) (x2 : Int32) (sv0 : Int32) (sv1 : Nat) (h0 : Hs_t) (H : Heap) (locs : List Loc) (ls : Array Slot), Rp_h G s0.heap h0 H → Lo_k s0 locs → lv_has ls 7 [(0, .ref t0), (2, .int x2)] → f_M_request_b90 t0 x2 sv0 sv1 h0 = some r → W p l e rm s m args below meth c H locs 0 0 (xq_MQ G s0 below r s rm.cells rm.slots) (F0 m 90 ls [.int sv0, .ref sv1]) := by
  have hx := hc.x
  have hb := hc.b
  obtain ⟨hm1, hm2, hm3, hm4⟩ := id hrm
  intro t0 x2 sv0 sv1 h0 H locs ls hR hLo hl heq
  unfold f_M_request_b90 at heq
  refine x_pV hc hR hLo fl_M_86 (Or.inl rfl) rfl rfl heq d_M_request_90 (fun h5 H locs hR hLo heq => ?_)
  refine lv_iconst (v := 0) hx hb d_M_request_93 (by decide) ?_
  refine lv_istore (lv' := [(6, .int 0), (0, .ref t0), (2, .int x2)]) hx hb d_M_request_94 hl (by decide) rfl (fun ls hl => ?_)
  refine W.widen (k := 0) (n := 0) (by omega) (by omega) ?_
  exact k_M_request_b96 hc hrm fu_N t0 x2 0 h5 H locs ls hR hLo (lv_sub hl [1, 2, 0] rfl) heq
set_option maxRecDepth 100000 in
set_option maxHeartbeats 4000000 in
theorem k_M_request_b52 {p : Program} {l : Launch} {e : Env} {s : State} {m : MethodId} {args : Array Value} {below : List Frame} {meth : Method} {c : Code} {s0 : State} {A0 : Array Value} {G : Gx_t} {r : Outcome × Hs_t} {rm : Room} (hc : Cx_t p s m meth c s0 A0 l G y_M_request b_M_request 7 (some .boolean) []) (hrm : rm_Ok 0 0 3 68 rm) : ∀ (t0 : Nat) (x2 : Int32) (x3 : Int32) (x4 : Int32) (h0 : Hs_t) (H : Heap) (locs : List Loc) (ls : Array Slot), Rp_h G s0.heap h0 H → Lo_k s0 locs → lv_has ls 7 [(0, .ref t0), (2, .int x2), (3, .int x3), (4, .int x4)] → f_M_request_b52 t0 x2 x3 x4 h0 = some r → W p l e rm s m args below meth c H locs 0 0 (xq_MQ G s0 below r s rm.cells rm.slots) (F0 m 52 ls []) := by
  have hx := hc.x
  have hb := hc.b
  obtain ⟨hm1, hm2, hm3, hm4⟩ := id hrm
  intro t0 x2 x3 x4 h0 H locs ls hR hLo hl heq
  unfold f_M_request_b52 at heq
  refine lv_iload hx hb d_M_request_52 (lv_at hl 3 rfl) ?_
  refine lv_if_ne (tgt := 143) hx hb d_M_request_54 rfl (fun hq => ?_) (fun hq => ?_)
  · rw [if_neg hq] at heq
    refine W.widen (k := 0) (n := 0) (by omega) (by omega) ?_
    exact k_M_request_b143 hc hrm t0 x2 h0 H locs ls hR hLo (lv_sub hl [0, 1] rfl) heq
  · rw [if_pos hq] at heq
    refine lv_aload_n hx hb d_M_request_57 rfl (lv_at hl 0 rfl) ?_
    refine x_gA hc hR fl_M_17 heq d_M_request_58 (fun v5 heq => ?_)
    refine lv_aload_n hx hb d_M_request_61 rfl (lv_at hl 0 rfl) ?_
    refine x_gI hc hR fl_M_72 heq d_M_request_62 (fun v6 heq => ?_)
    refine x_aZ hc hR heq d_M_request_65 (fun v7 heq => ?_)
    refine lv_if_eq (tgt := 71) hx hb d_M_request_66 rfl (fun hq => ?_) (fun hq => ?_)
    · rw [if_pos hq] at heq
      refine lv_aload_n hx hb d_M_request_71 rfl (lv_at hl 0 rfl) ?_
      refine x_ck heq (fun tt fs ha ht heq => ?_)
      obtain rfl : tt = 8 := by simpa using ht
      refine x_bI (mc := 0) (ms := 0) (st := []) hc hLo heq ⟨by omega, by omega⟩ (fun r9 h9 => x_runV hc (c_M_portionLeft hc.g rm_M_portionLeft rk_M_portionLeft _ _ _ h9) md_M_portionLeft hR ha rfl wd_853 wd_855 sp_19 hl.1 ml_M_portionLeft rfl (Nat.le_of_ble_eq_true rfl) d_M_request_72 ⟨by show 0 + 1 ≤ _; omega, by show 8 + (2 + 11) + (0) ≤ _; omega⟩ ⟨by show 0 + 0 ≤ _; omega, by show 0 + 0 ≤ _; omega⟩) (fun v8 h4 H locs hR hLo heq => ?_)
      refine lv_istore (lv' := [(5, .int v8), (0, .ref t0), (2, .int x2), (3, .int x3), (4, .int x4)]) hx hb d_M_request_75 hl (by decide) rfl (fun ls hl => ?_)
      refine lv_aload_n hx hb d_M_request_77 rfl (lv_at hl 1 rfl) ?_
      refine lv_iload_n hx hb d_M_request_78 rfl (lv_at hl 3 rfl) ?_
      refine lv_iload hx hb d_M_request_79 (lv_at hl 0 rfl) ?_
      refine lv_icmp_ge (tgt := 88) hx hb d_M_request_81 rfl (fun hq => ?_) (fun hq => ?_)
      · rw [if_pos hq] at heq
        refine lv_iload hx hb d_M_request_88 (lv_at hl 0 rfl) ?_
        refine W.widen (k := 0) (n := 0) (by omega) (by omega) ?_
        exact k_M_request_b90 hc hrm t0 x2 v8 t0 h4 H locs ls hR hLo (lv_sub hl [1, 2] rfl) heq
      · rw [if_neg hq] at heq
        refine lv_iload_n hx hb d_M_request_84 rfl (lv_at hl 3 rfl) ?_
        refine lv_goto (tgt := 90) hx hb d_M_request_85 rfl ?_
        refine W.widen (k := 0) (n := 0) (by omega) (by omega) ?_
        exact k_M_request_b90 hc hrm t0 x2 x3 t0 h4 H locs ls hR hLo (lv_sub hl [1, 2] rfl) heq
    · rw [if_neg hq] at heq
      refine lv_iconst (v := 0) hx hb d_M_request_69 (by decide) ?_
      exact x_zret hc hR hLo ⟨by omega, by omega⟩ heq d_M_request_70
set_option maxRecDepth 100000 in
set_option maxHeartbeats 4000000 in
theorem k_M_request_b12 {p : Program} {l : Launch} {e : Env} {s : State} {m : MethodId} {args : Array Value} {below : List Frame} {meth : Method} {c : Code} {s0 : State} {A0 : Array Value} {G : Gx_t} {r : Outcome × Hs_t} {rm : Room} (hc : Cx_t p s m meth c s0 A0 l G y_M_request b_M_request 7 (some .boolean) []) (hrm : rm_Ok 0 0 3 68 rm) : ∀ (n : Nat) (t0 : Nat) (x2 : Int32) (x3 : Int32) (x4 : Int32) (h0 : Hs_t) (H : Heap) (locs : List Loc) (ls : Array Slot), Rp_h G s0.heap h0 H → Lo_k s0 locs → lv_has ls 7 [(0, .ref t0), (2, .int x2), (3, .int x3), (4, .int x4)] → f_M_request_b12 n t0 x2 x3 x4 h0 = some r → W p l e rm s m args below meth c H locs 0 0 (xq_MQ G s0 below r s rm.cells rm.slots) (F0 m 12 ls []) := by
  have hx := hc.x
  have hb := hc.b
  obtain ⟨hm1, hm2, hm3, hm4⟩ := id hrm
  intro n
  induction n with
  | zero =>
    intro t0 x2 x3 x4 h0 H locs ls hR hLo hl heq
    unfold f_M_request_b12 at heq
    cases heq
  | succ n hr12 =>
    intro t0 x2 x3 x4 h0 H locs ls hR hLo hl heq
    unfold f_M_request_b12 at heq
    refine lv_iload_n hx hb d_M_request_12 rfl (lv_at hl 1 rfl) ?_
    refine lv_if_lt (tgt := 52) hx hb d_M_request_13 rfl (fun hq => ?_) (fun hq => ?_)
    · rw [if_pos hq] at heq
      refine W.widen (k := 0) (n := 0) (by omega) (by omega) ?_
      exact k_M_request_b52 hc hrm t0 x2 x3 x4 h0 H locs ls hR hLo (lv_sub hl [0, 1, 2, 3] rfl) heq
    · rw [if_neg hq] at heq
      refine lv_iload hx hb d_M_request_16 (lv_at hl 3 rfl) ?_
      refine lv_if_ne (tgt := 52) hx hb d_M_request_18 rfl (fun hq => ?_) (fun hq => ?_)
      · rw [if_neg hq] at heq
        refine W.widen (k := 0) (n := 0) (by omega) (by omega) ?_
        exact k_M_request_b52 hc hrm t0 x2 x3 x4 h0 H locs ls hR hLo (lv_sub hl [0, 1, 2, 3] rfl) heq
      · rw [if_pos hq] at heq
        refine lv_aload_n hx hb d_M_request_21 rfl (lv_at hl 0 rfl) ?_
        refine x_gA hc hR fl_M_53 heq d_M_request_22 (fun v2 heq => ?_)
        refine lv_iload_n hx hb d_M_request_25 rfl (lv_at hl 1 rfl) ?_
        refine lv_iload_n hx hb d_M_request_26 rfl (lv_at hl 2 rfl) ?_
        refine x_sI hc hR hLo heq d_M_request_27 (fun h1 H locs hR hLo heq => ?_)
        refine lv_aload_n hx hb d_M_request_28 rfl (lv_at hl 0 rfl) ?_
        refine lv_iload_n hx hb d_M_request_29 rfl (lv_at hl 1 rfl) ?_
        refine x_ck heq (fun tt fs ha ht heq => ?_)
        obtain rfl : tt = 8 := by simpa using ht
        refine x_bI (mc := 0) (ms := 0) (st := []) hc hLo heq ⟨by omega, by omega⟩ (fun r9 h9 => x_runV hc (c_M_answers hc.g rm_M_answers rk_M_answers _ _ _ _ h9) md_M_answers hR ha rfl wd_829 wd_831 sp_13 hl.1 ml_M_answers rfl (Nat.le_of_ble_eq_true rfl) d_M_request_30 ⟨by show 2 + 1 ≤ _; omega, by show 8 + (3 + 11) + (46) ≤ _; omega⟩ ⟨by show 0 + 0 ≤ _; omega, by show 0 + 0 ≤ _; omega⟩) (fun v3 h2 H locs hR hLo heq => ?_)
        refine lv_istore (lv' := [(4, .int v3), (0, .ref t0), (2, .int x2), (3, .int x3)]) hx hb d_M_request_33 hl (by decide) rfl (fun ls hl => ?_)
        refine lv_iload hx hb d_M_request_35 (lv_at hl 0 rfl) ?_
        refine lv_if_ne (tgt := 12) hx hb d_M_request_37 rfl (fun hq => ?_) (fun hq => ?_)
        · rw [if_neg hq] at heq
          refine W.widen (k := 0) (n := 0) (by omega) (by omega) ?_
          exact hr12 t0 x2 x3 v3 h2 H locs ls hR hLo (lv_sub hl [1, 2, 3, 0] rfl) heq
        · rw [if_pos hq] at heq
          refine lv_aload_n hx hb d_M_request_40 rfl (lv_at hl 1 rfl) ?_
          refine lv_iload_n hx hb d_M_request_41 rfl (lv_at hl 2 rfl) ?_
          refine x_ck heq (fun tt fs ha ht heq => ?_)
          obtain rfl : tt = 8 := by simpa using ht
          refine x_bI (mc := 0) (ms := 0) (st := []) hc hLo heq ⟨by omega, by omega⟩ (fun r9 h9 => x_runV hc (c_M_below hc.g rm_M_below rk_M_below _ _ _ _ h9) md_M_below hR ha rfl wd_845 wd_847 sp_17 hl.1 ml_M_below rfl (Nat.le_of_ble_eq_true rfl) d_M_request_42 ⟨by show 1 + 1 ≤ _; omega, by show 8 + (3 + 11) + (21) ≤ _; omega⟩ ⟨by show 0 + 0 ≤ _; omega, by show 0 + 0 ≤ _; omega⟩) (fun v4 h3 H locs hR hLo heq => ?_)
          refine lv_istore_n (lv' := [(3, .int v4), (4, .int v3), (0, .ref t0), (2, .int x2)]) hx hb d_M_request_45 rfl hl (by decide) rfl (fun ls hl => ?_)
          refine lv_iinc (k := 3) (v := (x2 + (-1))) (lv' := [(2, .int (x2 + (-1))), (3, .int v4), (4, .int v3), (0, .ref t0)]) hx hb d_M_request_46 hl rfl rfl (by decide) rfl (fun ls hl => ?_)
          refine lv_goto (tgt := 12) hx hb d_M_request_49 rfl ?_
          refine W.widen (k := 0) (n := 0) (by omega) (by omega) ?_
          exact hr12 t0 (x2 + (-1)) v4 v3 h3 H locs ls hR hLo (lv_sub hl [3, 0, 1, 2] rfl) heq
set_option maxRecDepth 100000 in
set_option maxHeartbeats 4000000 in
theorem c_M_request {l : Launch} {s0 : State} {A0 : Array Value} {G : Gx_t} (hG : G_0 l s0 A0 G) (rm : Room) (hrm : rm_Ok 0 0 3 68 rm) (t0 : Nat) (x1 : Int32) (h0 : Hs_t) (r : Outcome × Hs_t) (heq : f_M_request t0 x1 h0 = some r) : M_X G s0 l y_M_request (.code y_M_request b_M_request 7 (some .boolean)) rm [.ref t0, .int x1] h0 r := by
  refine M_X.of (by decide) hG (fun p e s m below meth c H hc hR => ?_)
  have hx := hc.x
  have hb := hc.b
  obtain ⟨hm1, hm2, hm3, hm4⟩ := id hrm
  have hLo : Lo_k s0 [] := fun _ hq => absurd hq List.not_mem_nil
  have hl := lv_entry ([.ref t0, .int x1]) (n := 7) (Nat.le_of_ble_eq_true rfl)
  rw [lg_entry_eq]
  generalize (lg_sl ([.ref t0, .int x1]) ++ List.replicate (7 - (lg_sl ([.ref t0, .int x1])).length) Slot.unset).toArray = ls at hl ⊢
  have hl : lv_has ls 7 [(0, .ref t0), (1, .int x1)] := hl
  generalize hle : ([] : List Loc) = locs at hLo ⊢
  unfold f_M_request at heq
  refine lv_aload_n hx hb d_M_request_0 rfl (lv_at hl 0 rfl) ?_
  refine x_gI hc hR fl_M_79 heq d_M_request_1 (fun v1 heq => ?_)
  refine lv_iconst (v := 1) hx hb d_M_request_4 (by decide) ?_
  refine lv_isub hx hb d_M_request_5 ?_
  refine lv_istore_n (lv' := [(2, .int (v1 - 1)), (0, .ref t0), (1, .int x1)]) hx hb d_M_request_6 rfl hl (by decide) rfl (fun ls hl => ?_)
  refine lv_iload_n hx hb d_M_request_7 rfl (lv_at hl 2 rfl) ?_
  refine lv_istore_n (lv' := [(3, .int x1), (2, .int (v1 - 1)), (0, .ref t0), (1, .int x1)]) hx hb d_M_request_8 rfl hl (by decide) rfl (fun ls hl => ?_)
  refine lv_iconst (v := 0) hx hb d_M_request_9 (by decide) ?_
  refine lv_istore (lv' := [(4, .int 0), (3, .int x1), (2, .int (v1 - 1)), (0, .ref t0), (1, .int x1)]) hx hb d_M_request_10 hl (by decide) rfl (fun ls hl => ?_)
  refine W.widen (k := 0) (n := 0) (by omega) (by omega) ?_
  exact k_M_request_b12 hc hrm fu_N t0 (v1 - 1) x1 0 h0 H locs ls hR hLo (lv_sub hl [3, 2, 1, 0] rfl) heq
def rm_M_request : Room := { frames := 3, cells := 0, slots := 0, locals := 68 }
theorem rk_M_request : rm_Ok 0 0 3 68 rm_M_request := ⟨Nat.le_refl _, Nat.le_refl _, Nat.le_refl _, Nat.le_refl _⟩
def f_M_reads_b24 (h0 : Hs_t) : Rs_t := re_Z 1 h0
def f_M_reads_b70 : Nat → Nat → Int32 → Hs_t → Rs_t
  | 0, _, _, _ => none
  | n + 1, t0, x2, h0 => (fd_I [8] 20 h0 t0).bind fun v9 => if v9 ≤ x2 then (re_Z 1 h0) else ((fd_A [8] 19 h0 t0).bind fun v10 => (fd_A [8] 19 h0 t0).bind fun v11 => (ar_I h0 v11 (x2 + 1)).bind fun v12 => (as_I h0 v10 x2 v12).bind fun h5 => (f_M_reads_b70 n) t0 (x2 + 1) h5)
def f_M_reads (t0 : Nat) (x1 : Int32) (h0 : Hs_t) : Rs_t := (ck_T [8] h0 t0).bind fun _ => bd_I (f_M_request t0 x1 h0) (fun v1 h1 => if v1 = 0 then (re_Z 0 h1) else ((fd_I [8] 22 h1 t0).bind fun v2 => if v2 = 0 then (f_M_reads_b24 h1) else ((fd_I [8] 20 h1 t0).bind fun v3 => if v3 = 0 then (f_M_reads_b24 h1) else ((pt_Z [8] 22 h1 t0 0).bind fun h2 => (fd_A [8] 19 h2 t0).bind fun v4 => (ar_I h2 v4 0).bind fun v5 => if v5 = 10 then ((fd_I [8] 20 h2 t0).bind fun v6 => if v6 = 1 then ((ck_T [8] h2 t0).bind fun _ => bd_I (f_M_request t0 x1 h2) (fun v8 h4 => re_Z v8 h4)) else ((fd_I [8] 20 h2 t0).bind fun v7 => (pt_V [8] 20 h2 t0 (.int (v7 - 1))).bind fun h3 => f_M_reads_b70 fu_N t0 0 h3)) else (re_Z 1 h2)))))
set_option maxRecDepth 100000 in
set_option maxHeartbeats 4000000 in
theorem k_M_reads_b24 {p : Program} {l : Launch} {e : Env} {s : State} {m : MethodId} {args : Array Value} {below : List Frame} {meth : Method} {c : Code} {s0 : State} {A0 : Array Value} {G : Gx_t} {r : Outcome × Hs_t} {rm : Room} (hc : Cx_t p s m meth c s0 A0 l G y_M_reads b_M_reads 3 (some .boolean) []) (hrm : rm_Ok 0 0 4 94 rm) : ∀  (h0 : Hs_t) (H : Heap) (locs : List Loc) (ls : Array Slot), Rp_h G s0.heap h0 H → Lo_k s0 locs → lv_has ls 3 [] → f_M_reads_b24  h0 = some r → W p l e rm s m args below meth c H locs 0 0 (xq_MQ G s0 below r s rm.cells rm.slots) (F0 m 24 ls []) := by
  have hx := hc.x
  have hb := hc.b
  obtain ⟨hm1, hm2, hm3, hm4⟩ := id hrm
  intro  h0 H locs ls hR hLo hl heq
  unfold f_M_reads_b24 at heq
  refine lv_iconst (v := 1) hx hb d_M_reads_24 (by decide) ?_
  exact x_zret hc hR hLo ⟨by omega, by omega⟩ heq d_M_reads_25
set_option maxRecDepth 100000 in
set_option maxHeartbeats 4000000 in
theorem k_M_reads_b70 {p : Program} {l : Launch} {e : Env} {s : State} {m : MethodId} {args : Array Value} {below : List Frame} {meth : Method} {c : Code} {s0 : State} {A0 : Array Value} {G : Gx_t} {r : Outcome × Hs_t} {rm : Room} (hc : Cx_t p s m meth c s0 A0 l G y_M_reads b_M_reads 3 (some .boolean) []) (hrm : rm_Ok 0 0 4 94 rm) : ∀ (n : Nat) (t0 : Nat) (x2 : Int32) (h0 : Hs_t) (H : Heap) (locs : List Loc) (ls : Array Slot), Rp_h G s0.heap h0 H → Lo_k s0 locs → lv_has ls 3 [(0, .ref t0), (2, .int x2)] → f_M_reads_b70 n t0 x2 h0 = some r → W p l e rm s m args below meth c H locs 0 0 (xq_MQ G s0 below r s rm.cells rm.slots) (F0 m 70 ls []) := by
  have hx := hc.x
  have hb := hc.b
  obtain ⟨hm1, hm2, hm3, hm4⟩ := id hrm
  intro n
  induction n with
  | zero =>
    intro t0 x2 h0 H locs ls hR hLo hl heq
    unfold f_M_reads_b70 at heq
    cases heq
  | succ n hr70 =>
    intro t0 x2 h0 H locs ls hR hLo hl heq
    unfold f_M_reads_b70 at heq
    refine lv_iload_n hx hb d_M_reads_70 rfl (lv_at hl 1 rfl) ?_
    refine lv_aload_n hx hb d_M_reads_71 rfl (lv_at hl 0 rfl) ?_
    refine x_gI hc hR fl_M_86 heq d_M_reads_72 (fun v9 heq => ?_)
    refine lv_icmp_ge (tgt := 98) hx hb d_M_reads_75 rfl (fun hq => ?_) (fun hq => ?_)
    · rw [if_pos hq] at heq
      refine lv_iconst (v := 1) hx hb d_M_reads_98 (by decide) ?_
      exact x_zret hc hR hLo ⟨by omega, by omega⟩ heq d_M_reads_99
    · rw [if_neg hq] at heq
      refine lv_aload_n hx hb d_M_reads_78 rfl (lv_at hl 0 rfl) ?_
      refine x_gA hc hR fl_M_56 heq d_M_reads_79 (fun v10 heq => ?_)
      refine lv_iload_n hx hb d_M_reads_82 rfl (lv_at hl 1 rfl) ?_
      refine lv_aload_n hx hb d_M_reads_83 rfl (lv_at hl 0 rfl) ?_
      refine x_gA hc hR fl_M_56 heq d_M_reads_84 (fun v11 heq => ?_)
      refine lv_iload_n hx hb d_M_reads_87 rfl (lv_at hl 1 rfl) ?_
      refine lv_iconst (v := 1) hx hb d_M_reads_88 (by decide) ?_
      refine lv_iadd hx hb d_M_reads_89 ?_
      refine x_aI hc hR heq d_M_reads_90 (fun v12 heq => ?_)
      refine x_sI hc hR hLo heq d_M_reads_91 (fun h5 H locs hR hLo heq => ?_)
      refine lv_iinc (k := 1) (v := (x2 + 1)) (lv' := [(2, .int (x2 + 1)), (0, .ref t0)]) hx hb d_M_reads_92 hl rfl rfl (by decide) rfl (fun ls hl => ?_)
      refine lv_goto (tgt := 70) hx hb d_M_reads_95 rfl ?_
      refine W.widen (k := 0) (n := 0) (by omega) (by omega) ?_
      exact hr70 t0 (x2 + 1) h5 H locs ls hR hLo (lv_sub hl [1, 0] rfl) heq
set_option maxRecDepth 100000 in
set_option maxHeartbeats 4000000 in
theorem c_M_reads {l : Launch} {s0 : State} {A0 : Array Value} {G : Gx_t} (hG : G_0 l s0 A0 G) (rm : Room) (hrm : rm_Ok 0 0 4 94 rm) (t0 : Nat) (x1 : Int32) (h0 : Hs_t) (r : Outcome × Hs_t) (heq : f_M_reads t0 x1 h0 = some r) : M_X G s0 l y_M_reads (.code y_M_reads b_M_reads 3 (some .boolean)) rm [.ref t0, .int x1] h0 r := by
  refine M_X.of (by decide) hG (fun p e s m below meth c H hc hR => ?_)
  have hx := hc.x
  have hb := hc.b
  obtain ⟨hm1, hm2, hm3, hm4⟩ := id hrm
  have hLo : Lo_k s0 [] := fun _ hq => absurd hq List.not_mem_nil
  have hl := lv_entry ([.ref t0, .int x1]) (n := 3) (Nat.le_of_ble_eq_true rfl)
  rw [lg_entry_eq]
  generalize (lg_sl ([.ref t0, .int x1]) ++ List.replicate (3 - (lg_sl ([.ref t0, .int x1])).length) Slot.unset).toArray = ls at hl ⊢
  have hl : lv_has ls 3 [(0, .ref t0), (1, .int x1)] := hl
  generalize hle : ([] : List Loc) = locs at hLo ⊢
  unfold f_M_reads at heq
  refine lv_aload_n hx hb d_M_reads_0 rfl (lv_at hl 0 rfl) ?_
  refine lv_iload_n hx hb d_M_reads_1 rfl (lv_at hl 1 rfl) ?_
  refine x_ck heq (fun tt fs ha ht heq => ?_)
  obtain rfl : tt = 8 := by simpa using ht
  refine x_bI (mc := 0) (ms := 0) (st := []) hc hLo heq ⟨by omega, by omega⟩ (fun r9 h9 => x_runV hc (c_M_request hc.g rm_M_request rk_M_request _ _ _ _ h9) md_M_request hR ha rfl wd_825 wd_827 sp_12 hl.1 ml_M_request rfl (Nat.le_of_ble_eq_true rfl) d_M_reads_2 ⟨by show 3 + 1 ≤ _; omega, by show 8 + (7 + 11) + (68) ≤ _; omega⟩ ⟨by show 0 + 0 ≤ _; omega, by show 0 + 0 ≤ _; omega⟩) (fun v1 h1 H locs hR hLo heq => ?_)
  refine lv_if_ne (tgt := 10) hx hb d_M_reads_5 rfl (fun hq => ?_) (fun hq => ?_)
  · rw [if_neg hq] at heq
    refine lv_aload_n hx hb d_M_reads_10 rfl (lv_at hl 0 rfl) ?_
    refine x_gI hc hR fl_M_120 heq d_M_reads_11 (fun v2 heq => ?_)
    refine lv_if_eq (tgt := 24) hx hb d_M_reads_14 rfl (fun hq => ?_) (fun hq => ?_)
    · rw [if_pos hq] at heq
      refine W.widen (k := 0) (n := 0) (by omega) (by omega) ?_
      exact k_M_reads_b24 hc hrm h1 H locs ls hR hLo (lv_sub hl [] rfl) heq
    · rw [if_neg hq] at heq
      refine lv_aload_n hx hb d_M_reads_17 rfl (lv_at hl 0 rfl) ?_
      refine x_gI hc hR fl_M_86 heq d_M_reads_18 (fun v3 heq => ?_)
      refine lv_if_ne (tgt := 26) hx hb d_M_reads_21 rfl (fun hq => ?_) (fun hq => ?_)
      · rw [if_neg hq] at heq
        refine lv_aload_n hx hb d_M_reads_26 rfl (lv_at hl 0 rfl) ?_
        refine lv_iconst (v := 0) hx hb d_M_reads_27 (by decide) ?_
        refine x_pZ hc hR hLo fl_M_120 (Or.inl rfl) heq d_M_reads_28 (fun h2 H locs hR hLo heq => ?_)
        refine lv_aload_n hx hb d_M_reads_31 rfl (lv_at hl 0 rfl) ?_
        refine x_gA hc hR fl_M_56 heq d_M_reads_32 (fun v4 heq => ?_)
        refine lv_iconst (v := 0) hx hb d_M_reads_35 (by decide) ?_
        refine x_aI hc hR heq d_M_reads_36 (fun v5 heq => ?_)
        refine lv_bipush (v := 10) hx hb d_M_reads_37 (by decide) ?_
        refine lv_icmp_eq (tgt := 44) hx hb d_M_reads_39 rfl (fun hq => ?_) (fun hq => ?_)
        · rw [if_pos hq] at heq
          refine lv_aload_n hx hb d_M_reads_44 rfl (lv_at hl 0 rfl) ?_
          refine x_gI hc hR fl_M_86 heq d_M_reads_45 (fun v6 heq => ?_)
          refine lv_iconst (v := 1) hx hb d_M_reads_48 (by decide) ?_
          refine lv_icmp_ne (tgt := 58) hx hb d_M_reads_49 rfl (fun hq => ?_) (fun hq => ?_)
          · rw [if_neg hq] at heq
            refine lv_aload_n hx hb d_M_reads_58 rfl (lv_at hl 0 rfl) ?_
            refine lv_dup hx hb d_M_reads_59 rfl ?_
            refine x_gI hc hR fl_M_86 heq d_M_reads_60 (fun v7 heq => ?_)
            refine lv_iconst (v := 1) hx hb d_M_reads_63 (by decide) ?_
            refine lv_isub hx hb d_M_reads_64 ?_
            refine x_pV hc hR hLo fl_M_86 (Or.inl rfl) rfl rfl heq d_M_reads_65 (fun h3 H locs hR hLo heq => ?_)
            refine lv_iconst (v := 0) hx hb d_M_reads_68 (by decide) ?_
            refine lv_istore_n (lv' := [(2, .int 0), (0, .ref t0), (1, .int x1)]) hx hb d_M_reads_69 rfl hl (by decide) rfl (fun ls hl => ?_)
            refine W.widen (k := 0) (n := 0) (by omega) (by omega) ?_
            exact k_M_reads_b70 hc hrm fu_N t0 0 h3 H locs ls hR hLo (lv_sub hl [1, 0] rfl) heq
          · rw [if_pos hq] at heq
            refine lv_aload_n hx hb d_M_reads_52 rfl (lv_at hl 0 rfl) ?_
            refine lv_iload_n hx hb d_M_reads_53 rfl (lv_at hl 1 rfl) ?_
            refine x_ck heq (fun tt fs ha ht heq => ?_)
            obtain rfl : tt = 8 := by simpa using ht
            refine x_bI (mc := 0) (ms := 0) (st := []) hc hLo heq ⟨by omega, by omega⟩ (fun r9 h9 => x_runV hc (c_M_request hc.g rm_M_request rk_M_request _ _ _ _ h9) md_M_request hR ha rfl wd_825 wd_827 sp_12 hl.1 ml_M_request rfl (Nat.le_of_ble_eq_true rfl) d_M_reads_54 ⟨by show 3 + 1 ≤ _; omega, by show 8 + (7 + 11) + (68) ≤ _; omega⟩ ⟨by show 0 + 0 ≤ _; omega, by show 0 + 0 ≤ _; omega⟩) (fun v8 h4 H locs hR hLo heq => ?_)
            exact x_zret hc hR hLo ⟨by omega, by omega⟩ heq d_M_reads_57
        · rw [if_neg hq] at heq
          refine lv_iconst (v := 1) hx hb d_M_reads_42 (by decide) ?_
          exact x_zret hc hR hLo ⟨by omega, by omega⟩ heq d_M_reads_43
      · rw [if_pos hq] at heq
        refine W.widen (k := 0) (n := 0) (by omega) (by omega) ?_
        exact k_M_reads_b24 hc hrm h1 H locs ls hR hLo (lv_sub hl [] rfl) heq
  · rw [if_pos hq] at heq
    refine lv_iconst (v := 0) hx hb d_M_reads_8 (by decide) ?_
    exact x_zret hc hR hLo ⟨by omega, by omega⟩ heq d_M_reads_9
def rm_M_reads : Room := { frames := 4, cells := 0, slots := 0, locals := 94 }
theorem rk_M_reads : rm_Ok 0 0 4 94 rm_M_reads := ⟨Nat.le_refl _, Nat.le_refl _, Nat.le_refl _, Nat.le_refl _⟩
