theorem d_M_line_0 : decode b_M_line 0 = .ok (.aload_n 0, 1) := by decide +kernel
theorem d_M_line_1 : decode b_M_line 1 = .ok (.iconst 0, 1) := by decide +kernel
theorem d_M_line_2 : decode b_M_line 2 = .ok (.putfield 123, 3) := by decide +kernel
theorem d_M_line_5 : decode b_M_line 5 = .ok (.aload_n 0, 1) := by decide +kernel
theorem d_M_line_6 : decode b_M_line 6 = .ok (.aload_n 0, 1) := by decide +kernel
theorem d_M_line_7 : decode b_M_line 7 = .ok (.getfield 75, 3) := by decide +kernel
theorem d_M_line_10 : decode b_M_line 10 = .ok (.ifCond .eq 7, 3) := by decide +kernel
theorem d_M_line_13 : decode b_M_line 13 = .ok (.iconst 1, 1) := by decide +kernel
theorem d_M_line_14 : decode b_M_line 14 = .ok (.goto 4, 3) := by decide +kernel
theorem d_M_line_17 : decode b_M_line 17 = .ok (.iconst 0, 1) := by decide +kernel
theorem d_M_line_18 : decode b_M_line 18 = .ok (.putfield 65, 3) := by decide +kernel
theorem d_M_line_21 : decode b_M_line 21 = .ok (.aload_n 0, 1) := by decide +kernel
theorem d_M_line_22 : decode b_M_line 22 = .ok (.getfield 65, 3) := by decide +kernel
theorem d_M_line_25 : decode b_M_line 25 = .ok (.ifCond .ne 7, 3) := by decide +kernel
theorem d_M_line_28 : decode b_M_line 28 = .ok (.iconst 1, 1) := by decide +kernel
theorem d_M_line_29 : decode b_M_line 29 = .ok (.goto 4, 3) := by decide +kernel
theorem d_M_line_32 : decode b_M_line 32 = .ok (.iconst 0, 1) := by decide +kernel
theorem d_M_line_33 : decode b_M_line 33 = .ok (.istore_n 1, 1) := by decide +kernel
theorem d_M_line_34 : decode b_M_line 34 = .ok (.iconst 0, 1) := by decide +kernel
theorem d_M_line_35 : decode b_M_line 35 = .ok (.istore_n 2, 1) := by decide +kernel
theorem d_M_line_36 : decode b_M_line 36 = .ok (.iload_n 1, 1) := by decide +kernel
theorem d_M_line_37 : decode b_M_line 37 = .ok (.ifCond .eq 105, 3) := by decide +kernel
theorem d_M_line_40 : decode b_M_line 40 = .ok (.aload_n 0, 1) := by decide +kernel
theorem d_M_line_41 : decode b_M_line 41 = .ok (.iconst 1, 1) := by decide +kernel
theorem d_M_line_42 : decode b_M_line 42 = .ok (.invokevirtual 126, 3) := by decide +kernel
theorem d_M_line_45 : decode b_M_line 45 = .ok (.ifCond .ne 10, 3) := by decide +kernel
theorem d_M_line_48 : decode b_M_line 48 = .ok (.aload_n 0, 1) := by decide +kernel
theorem d_M_line_49 : decode b_M_line 49 = .ok (.iconst 1, 1) := by decide +kernel
theorem d_M_line_50 : decode b_M_line 50 = .ok (.putfield 65, 3) := by decide +kernel
theorem d_M_line_53 : decode b_M_line 53 = .ok (.iconst 0, 1) := by decide +kernel
theorem d_M_line_54 : decode b_M_line 54 = .ok (.ireturn, 1) := by decide +kernel
theorem d_M_line_55 : decode b_M_line 55 = .ok (.aload_n 0, 1) := by decide +kernel
theorem d_M_line_56 : decode b_M_line 56 = .ok (.getfield 86, 3) := by decide +kernel
theorem d_M_line_59 : decode b_M_line 59 = .ok (.ifCond .ne 7, 3) := by decide +kernel
theorem d_M_line_62 : decode b_M_line 62 = .ok (.iconst (-1), 1) := by decide +kernel
theorem d_M_line_63 : decode b_M_line 63 = .ok (.goto 9, 3) := by decide +kernel
theorem d_M_line_66 : decode b_M_line 66 = .ok (.aload_n 0, 1) := by decide +kernel
theorem d_M_line_67 : decode b_M_line 67 = .ok (.getfield 56, 3) := by decide +kernel
theorem d_M_line_70 : decode b_M_line 70 = .ok (.iconst 0, 1) := by decide +kernel
theorem d_M_line_71 : decode b_M_line 71 = .ok (.iaload, 1) := by decide +kernel
theorem d_M_line_72 : decode b_M_line 72 = .ok (.istore_n 3, 1) := by decide +kernel
theorem d_M_line_73 : decode b_M_line 73 = .ok (.iload_n 3, 1) := by decide +kernel
theorem d_M_line_74 : decode b_M_line 74 = .ok (.ifCond .lt 19, 3) := by decide +kernel
theorem d_M_line_77 : decode b_M_line 77 = .ok (.iload_n 3, 1) := by decide +kernel
theorem d_M_line_78 : decode b_M_line 78 = .ok (.bipush 10, 2) := by decide +kernel
theorem d_M_line_80 : decode b_M_line 80 = .ok (.if_icmp .eq 13, 3) := by decide +kernel
theorem d_M_line_83 : decode b_M_line 83 = .ok (.iload_n 3, 1) := by decide +kernel
theorem d_M_line_84 : decode b_M_line 84 = .ok (.bipush 13, 2) := by decide +kernel
theorem d_M_line_86 : decode b_M_line 86 = .ok (.if_icmp .eq 7, 3) := by decide +kernel
theorem d_M_line_89 : decode b_M_line 89 = .ok (.iconst 1, 1) := by decide +kernel
theorem d_M_line_90 : decode b_M_line 90 = .ok (.goto 4, 3) := by decide +kernel
theorem d_M_line_93 : decode b_M_line 93 = .ok (.iconst 0, 1) := by decide +kernel
theorem d_M_line_94 : decode b_M_line 94 = .ok (.istore_n 1, 1) := by decide +kernel
theorem d_M_line_95 : decode b_M_line 95 = .ok (.iload_n 3, 1) := by decide +kernel
theorem d_M_line_96 : decode b_M_line 96 = .ok (.ifCond .lt 11, 3) := by decide +kernel
theorem d_M_line_99 : decode b_M_line 99 = .ok (.iload_n 1, 1) := by decide +kernel
theorem d_M_line_100 : decode b_M_line 100 = .ok (.ifCond .ne 7, 3) := by decide +kernel
theorem d_M_line_103 : decode b_M_line 103 = .ok (.iconst 1, 1) := by decide +kernel
theorem d_M_line_104 : decode b_M_line 104 = .ok (.goto 4, 3) := by decide +kernel
theorem d_M_line_107 : decode b_M_line 107 = .ok (.iconst 0, 1) := by decide +kernel
theorem d_M_line_108 : decode b_M_line 108 = .ok (.istore_n 2, 1) := by decide +kernel
theorem d_M_line_109 : decode b_M_line 109 = .ok (.aload_n 0, 1) := by decide +kernel
theorem d_M_line_110 : decode b_M_line 110 = .ok (.aload_n 0, 1) := by decide +kernel
theorem d_M_line_111 : decode b_M_line 111 = .ok (.getfield 120, 3) := by decide +kernel
theorem d_M_line_114 : decode b_M_line 114 = .ok (.ifCond .ne 9, 3) := by decide +kernel
theorem d_M_line_117 : decode b_M_line 117 = .ok (.iload_n 3, 1) := by decide +kernel
theorem d_M_line_118 : decode b_M_line 118 = .ok (.bipush 13, 2) := by decide +kernel
theorem d_M_line_120 : decode b_M_line 120 = .ok (.if_icmp .ne 7, 3) := by decide +kernel
theorem d_M_line_123 : decode b_M_line 123 = .ok (.iconst 1, 1) := by decide +kernel
theorem d_M_line_124 : decode b_M_line 124 = .ok (.goto 4, 3) := by decide +kernel
theorem d_M_line_127 : decode b_M_line 127 = .ok (.iconst 0, 1) := by decide +kernel
theorem d_M_line_128 : decode b_M_line 128 = .ok (.putfield 120, 3) := by decide +kernel
theorem d_M_line_131 : decode b_M_line 131 = .ok (.iload_n 1, 1) := by decide +kernel
theorem d_M_line_132 : decode b_M_line 132 = .ok (.ifCond .eq 7, 3) := by decide +kernel
theorem d_M_line_135 : decode b_M_line 135 = .ok (.aload_n 0, 1) := by decide +kernel
theorem d_M_line_136 : decode b_M_line 136 = .ok (.invokevirtual 129, 3) := by decide +kernel
theorem d_M_line_139 : decode b_M_line 139 = .ok (.goto (-103), 3) := by decide +kernel
theorem d_M_line_142 : decode b_M_line 142 = .ok (.aload_n 0, 1) := by decide +kernel
theorem d_M_line_143 : decode b_M_line 143 = .ok (.getfield 65, 3) := by decide +kernel
theorem d_M_line_146 : decode b_M_line 146 = .ok (.ifCond .le 7, 3) := by decide +kernel
theorem d_M_line_149 : decode b_M_line 149 = .ok (.iconst 0, 1) := by decide +kernel
theorem d_M_line_150 : decode b_M_line 150 = .ok (.goto 22, 3) := by decide +kernel
theorem d_M_line_153 : decode b_M_line 153 = .ok (.iload_n 2, 1) := by decide +kernel
theorem d_M_line_154 : decode b_M_line 154 = .ok (.ifCond .ne 10, 3) := by decide +kernel
theorem d_M_line_157 : decode b_M_line 157 = .ok (.aload_n 0, 1) := by decide +kernel
theorem d_M_line_158 : decode b_M_line 158 = .ok (.getfield 123, 3) := by decide +kernel
theorem d_M_line_161 : decode b_M_line 161 = .ok (.ifCond .le 10, 3) := by decide +kernel
theorem d_M_line_164 : decode b_M_line 164 = .ok (.aload_n 0, 1) := by decide +kernel
theorem d_M_line_165 : decode b_M_line 165 = .ok (.getfield 123, 3) := by decide +kernel
theorem d_M_line_168 : decode b_M_line 168 = .ok (.goto 4, 3) := by decide +kernel
theorem d_M_line_171 : decode b_M_line 171 = .ok (.iconst (-1), 1) := by decide +kernel
theorem d_M_line_172 : decode b_M_line 172 = .ok (.ireturn, 1) := by decide +kernel
theorem d_M_bufferBelow_0 : decode b_M_bufferBelow 0 = .ok (.aload_n 0, 1) := by decide +kernel
theorem d_M_bufferBelow_1 : decode b_M_bufferBelow 1 = .ok (.getfield 79, 3) := by decide +kernel
theorem d_M_bufferBelow_4 : decode b_M_bufferBelow 4 = .ok (.iconst 1, 1) := by decide +kernel
theorem d_M_bufferBelow_5 : decode b_M_bufferBelow 5 = .ok (.isub, 1) := by decide +kernel
theorem d_M_bufferBelow_6 : decode b_M_bufferBelow 6 = .ok (.istore_n 1, 1) := by decide +kernel
theorem d_M_bufferBelow_7 : decode b_M_bufferBelow 7 = .ok (.iload_n 1, 1) := by decide +kernel
theorem d_M_bufferBelow_8 : decode b_M_bufferBelow 8 = .ok (.ifCond .lt 19, 3) := by decide +kernel
theorem d_M_bufferBelow_11 : decode b_M_bufferBelow 11 = .ok (.aload_n 0, 1) := by decide +kernel
theorem d_M_bufferBelow_12 : decode b_M_bufferBelow 12 = .ok (.getfield 20, 3) := by decide +kernel
theorem d_M_bufferBelow_15 : decode b_M_bufferBelow 15 = .ok (.iload_n 1, 1) := by decide +kernel
theorem d_M_bufferBelow_16 : decode b_M_bufferBelow 16 = .ok (.iaload, 1) := by decide +kernel
theorem d_M_bufferBelow_17 : decode b_M_bufferBelow 17 = .ok (.iconst 2, 1) := by decide +kernel
theorem d_M_bufferBelow_18 : decode b_M_bufferBelow 18 = .ok (.if_icmp .le 9, 3) := by decide +kernel
theorem d_M_bufferBelow_21 : decode b_M_bufferBelow 21 = .ok (.iinc 1 (-1), 3) := by decide +kernel
theorem d_M_bufferBelow_24 : decode b_M_bufferBelow 24 = .ok (.goto (-17), 3) := by decide +kernel
theorem d_M_bufferBelow_27 : decode b_M_bufferBelow 27 = .ok (.iload_n 1, 1) := by decide +kernel
theorem d_M_bufferBelow_28 : decode b_M_bufferBelow 28 = .ok (.ifCond .lt 17, 3) := by decide +kernel
theorem d_M_bufferBelow_31 : decode b_M_bufferBelow 31 = .ok (.aload_n 0, 1) := by decide +kernel
theorem d_M_bufferBelow_32 : decode b_M_bufferBelow 32 = .ok (.getfield 20, 3) := by decide +kernel
theorem d_M_bufferBelow_35 : decode b_M_bufferBelow 35 = .ok (.iload_n 1, 1) := by decide +kernel
theorem d_M_bufferBelow_36 : decode b_M_bufferBelow 36 = .ok (.iaload, 1) := by decide +kernel
theorem d_M_bufferBelow_37 : decode b_M_bufferBelow 37 = .ok (.iconst 1, 1) := by decide +kernel
theorem d_M_bufferBelow_38 : decode b_M_bufferBelow 38 = .ok (.if_icmp .ne 7, 3) := by decide +kernel
theorem d_M_bufferBelow_41 : decode b_M_bufferBelow 41 = .ok (.iload_n 1, 1) := by decide +kernel
theorem d_M_bufferBelow_42 : decode b_M_bufferBelow 42 = .ok (.goto 4, 3) := by decide +kernel
theorem d_M_bufferBelow_45 : decode b_M_bufferBelow 45 = .ok (.iconst (-1), 1) := by decide +kernel
theorem d_M_bufferBelow_46 : decode b_M_bufferBelow 46 = .ok (.ireturn, 1) := by decide +kernel
theorem d_M_mark_0 : decode b_M_mark 0 = .ok (.aload_n 0, 1) := by decide +kernel
theorem d_M_mark_1 : decode b_M_mark 1 = .ok (.invokevirtual 148, 3) := by decide +kernel
theorem d_M_mark_4 : decode b_M_mark 4 = .ok (.istore_n 2, 1) := by decide +kernel
theorem d_M_mark_5 : decode b_M_mark 5 = .ok (.aload_n 0, 1) := by decide +kernel
theorem d_M_mark_6 : decode b_M_mark 6 = .ok (.aload_n 0, 1) := by decide +kernel
theorem d_M_mark_7 : decode b_M_mark 7 = .ok (.getfield 75, 3) := by decide +kernel
theorem d_M_mark_10 : decode b_M_mark 10 = .ok (.ifCond .eq 7, 3) := by decide +kernel
theorem d_M_mark_13 : decode b_M_mark 13 = .ok (.iconst 1, 1) := by decide +kernel
theorem d_M_mark_14 : decode b_M_mark 14 = .ok (.goto 26, 3) := by decide +kernel
theorem d_M_mark_17 : decode b_M_mark 17 = .ok (.iload_n 1, 1) := by decide +kernel
theorem d_M_mark_18 : decode b_M_mark 18 = .ok (.ifCond .lt 9, 3) := by decide +kernel
theorem d_M_mark_21 : decode b_M_mark 21 = .ok (.iload_n 1, 1) := by decide +kernel
theorem d_M_mark_22 : decode b_M_mark 22 = .ok (.bipush 32, 2) := by decide +kernel
theorem d_M_mark_24 : decode b_M_mark 24 = .ok (.if_icmp .le 7, 3) := by decide +kernel
theorem d_M_mark_27 : decode b_M_mark 27 = .ok (.iconst 2, 1) := by decide +kernel
theorem d_M_mark_28 : decode b_M_mark 28 = .ok (.goto 12, 3) := by decide +kernel
theorem d_M_mark_31 : decode b_M_mark 31 = .ok (.iload_n 2, 1) := by decide +kernel
theorem d_M_mark_32 : decode b_M_mark 32 = .ok (.ifCond .ge 7, 3) := by decide +kernel
theorem d_M_mark_35 : decode b_M_mark 35 = .ok (.iconst 3, 1) := by decide +kernel
theorem d_M_mark_36 : decode b_M_mark 36 = .ok (.goto 4, 3) := by decide +kernel
theorem d_M_mark_39 : decode b_M_mark 39 = .ok (.iconst 0, 1) := by decide +kernel
theorem d_M_mark_40 : decode b_M_mark 40 = .ok (.putfield 65, 3) := by decide +kernel
theorem d_M_mark_43 : decode b_M_mark 43 = .ok (.aload_n 0, 1) := by decide +kernel
theorem d_M_mark_44 : decode b_M_mark 44 = .ok (.getfield 65, 3) := by decide +kernel
theorem d_M_mark_47 : decode b_M_mark 47 = .ok (.ifCond .le 4, 3) := by decide +kernel
theorem d_M_mark_50 : decode b_M_mark 50 = .ok (.return_, 1) := by decide +kernel
theorem d_M_mark_51 : decode b_M_mark 51 = .ok (.aload_n 0, 1) := by decide +kernel
theorem d_M_mark_52 : decode b_M_mark 52 = .ok (.iload_n 2, 1) := by decide +kernel
theorem d_M_mark_53 : decode b_M_mark 53 = .ok (.aload_n 0, 1) := by decide +kernel
theorem d_M_mark_54 : decode b_M_mark 54 = .ok (.getfield 44, 3) := by decide +kernel
theorem d_M_mark_57 : decode b_M_mark 57 = .ok (.iload_n 2, 1) := by decide +kernel
theorem d_M_mark_58 : decode b_M_mark 58 = .ok (.iaload, 1) := by decide +kernel
theorem d_M_mark_59 : decode b_M_mark 59 = .ok (.invokevirtual 89, 3) := by decide +kernel
theorem d_M_mark_62 : decode b_M_mark 62 = .ok (.aload_n 0, 1) := by decide +kernel
theorem d_M_mark_63 : decode b_M_mark 63 = .ok (.getfield 44, 3) := by decide +kernel
theorem d_M_mark_66 : decode b_M_mark 66 = .ok (.iload_n 2, 1) := by decide +kernel
theorem d_M_mark_67 : decode b_M_mark 67 = .ok (.iconst 0, 1) := by decide +kernel
theorem d_M_mark_68 : decode b_M_mark 68 = .ok (.iastore, 1) := by decide +kernel
theorem d_M_mark_69 : decode b_M_mark 69 = .ok (.aload_n 0, 1) := by decide +kernel
theorem d_M_mark_70 : decode b_M_mark 70 = .ok (.getfield 47, 3) := by decide +kernel
theorem d_M_mark_73 : decode b_M_mark 73 = .ok (.iload_n 2, 1) := by decide +kernel
theorem d_M_mark_74 : decode b_M_mark 74 = .ok (.iconst 1, 1) := by decide +kernel
theorem d_M_mark_75 : decode b_M_mark 75 = .ok (.bastore, 1) := by decide +kernel
theorem d_M_mark_76 : decode b_M_mark 76 = .ok (.aload_n 0, 1) := by decide +kernel
theorem d_M_mark_77 : decode b_M_mark 77 = .ok (.getfield 50, 3) := by decide +kernel
theorem d_M_mark_80 : decode b_M_mark 80 = .ok (.iload_n 2, 1) := by decide +kernel
theorem d_M_mark_81 : decode b_M_mark 81 = .ok (.iload_n 1, 1) := by decide +kernel
theorem d_M_mark_82 : decode b_M_mark 82 = .ok (.iastore, 1) := by decide +kernel
theorem d_M_mark_83 : decode b_M_mark 83 = .ok (.iload_n 2, 1) := by decide +kernel
theorem d_M_mark_84 : decode b_M_mark 84 = .ok (.iconst 1, 1) := by decide +kernel
theorem d_M_mark_85 : decode b_M_mark 85 = .ok (.iadd, 1) := by decide +kernel
theorem d_M_mark_86 : decode b_M_mark 86 = .ok (.istore_n 3, 1) := by decide +kernel
theorem d_M_mark_87 : decode b_M_mark 87 = .ok (.iload_n 3, 1) := by decide +kernel
theorem d_M_mark_88 : decode b_M_mark 88 = .ok (.aload_n 0, 1) := by decide +kernel
theorem d_M_mark_89 : decode b_M_mark 89 = .ok (.getfield 79, 3) := by decide +kernel
theorem d_M_mark_92 : decode b_M_mark 92 = .ok (.if_icmp .ge 33, 3) := by decide +kernel
theorem d_M_mark_95 : decode b_M_mark 95 = .ok (.aload_n 0, 1) := by decide +kernel
theorem d_M_mark_96 : decode b_M_mark 96 = .ok (.getfield 29, 3) := by decide +kernel
theorem d_M_mark_99 : decode b_M_mark 99 = .ok (.iload_n 3, 1) := by decide +kernel
theorem d_M_mark_100 : decode b_M_mark 100 = .ok (.aload_n 0, 1) := by decide +kernel
theorem d_M_mark_101 : decode b_M_mark 101 = .ok (.getfield 26, 3) := by decide +kernel
theorem d_M_mark_104 : decode b_M_mark 104 = .ok (.iload_n 3, 1) := by decide +kernel
theorem d_M_mark_105 : decode b_M_mark 105 = .ok (.iaload, 1) := by decide +kernel
theorem d_M_mark_106 : decode b_M_mark 106 = .ok (.iastore, 1) := by decide +kernel
theorem d_M_mark_107 : decode b_M_mark 107 = .ok (.aload_n 0, 1) := by decide +kernel
theorem d_M_mark_108 : decode b_M_mark 108 = .ok (.getfield 35, 3) := by decide +kernel
theorem d_M_mark_111 : decode b_M_mark 111 = .ok (.iload_n 3, 1) := by decide +kernel
theorem d_M_mark_112 : decode b_M_mark 112 = .ok (.aload_n 0, 1) := by decide +kernel
theorem d_M_mark_113 : decode b_M_mark 113 = .ok (.getfield 32, 3) := by decide +kernel
theorem d_M_mark_116 : decode b_M_mark 116 = .ok (.iload_n 3, 1) := by decide +kernel
theorem d_M_mark_117 : decode b_M_mark 117 = .ok (.baload, 1) := by decide +kernel
theorem d_M_mark_118 : decode b_M_mark 118 = .ok (.bastore, 1) := by decide +kernel
theorem d_M_mark_119 : decode b_M_mark 119 = .ok (.iinc 3 1, 3) := by decide +kernel
theorem d_M_mark_122 : decode b_M_mark 122 = .ok (.goto (-35), 3) := by decide +kernel
theorem d_M_mark_125 : decode b_M_mark 125 = .ok (.aload_n 0, 1) := by decide +kernel
theorem d_M_mark_126 : decode b_M_mark 126 = .ok (.aload_n 0, 1) := by decide +kernel
theorem d_M_mark_127 : decode b_M_mark 127 = .ok (.getfield 120, 3) := by decide +kernel
theorem d_M_mark_130 : decode b_M_mark 130 = .ok (.putfield 151, 3) := by decide +kernel
theorem d_M_mark_133 : decode b_M_mark 133 = .ok (.return_, 1) := by decide +kernel
theorem d_M_reset_0 : decode b_M_reset 0 = .ok (.aload_n 0, 1) := by decide +kernel
theorem d_M_reset_1 : decode b_M_reset 1 = .ok (.invokevirtual 148, 3) := by decide +kernel
theorem d_M_reset_4 : decode b_M_reset 4 = .ok (.istore_n 1, 1) := by decide +kernel
theorem d_M_reset_5 : decode b_M_reset 5 = .ok (.aload_n 0, 1) := by decide +kernel
theorem d_M_reset_6 : decode b_M_reset 6 = .ok (.aload_n 0, 1) := by decide +kernel
theorem d_M_reset_7 : decode b_M_reset 7 = .ok (.getfield 75, 3) := by decide +kernel
theorem d_M_reset_10 : decode b_M_reset 10 = .ok (.ifCond .eq 7, 3) := by decide +kernel
theorem d_M_reset_13 : decode b_M_reset 13 = .ok (.iconst 1, 1) := by decide +kernel
theorem d_M_reset_14 : decode b_M_reset 14 = .ok (.goto 25, 3) := by decide +kernel
theorem d_M_reset_17 : decode b_M_reset 17 = .ok (.iload_n 1, 1) := by decide +kernel
theorem d_M_reset_18 : decode b_M_reset 18 = .ok (.ifCond .ge 7, 3) := by decide +kernel
theorem d_M_reset_21 : decode b_M_reset 21 = .ok (.iconst 2, 1) := by decide +kernel
theorem d_M_reset_22 : decode b_M_reset 22 = .ok (.goto 17, 3) := by decide +kernel
theorem d_M_reset_25 : decode b_M_reset 25 = .ok (.aload_n 0, 1) := by decide +kernel
theorem d_M_reset_26 : decode b_M_reset 26 = .ok (.getfield 47, 3) := by decide +kernel
theorem d_M_reset_29 : decode b_M_reset 29 = .ok (.iload_n 1, 1) := by decide +kernel
theorem d_M_reset_30 : decode b_M_reset 30 = .ok (.baload, 1) := by decide +kernel
theorem d_M_reset_31 : decode b_M_reset 31 = .ok (.ifCond .ne 7, 3) := by decide +kernel
theorem d_M_reset_34 : decode b_M_reset 34 = .ok (.iconst 1, 1) := by decide +kernel
theorem d_M_reset_35 : decode b_M_reset 35 = .ok (.goto 4, 3) := by decide +kernel
theorem d_M_reset_38 : decode b_M_reset 38 = .ok (.iconst 0, 1) := by decide +kernel
theorem d_M_reset_39 : decode b_M_reset 39 = .ok (.putfield 65, 3) := by decide +kernel
theorem d_M_reset_42 : decode b_M_reset 42 = .ok (.aload_n 0, 1) := by decide +kernel
theorem d_M_reset_43 : decode b_M_reset 43 = .ok (.getfield 65, 3) := by decide +kernel
theorem d_M_reset_46 : decode b_M_reset 46 = .ok (.ifCond .le 4, 3) := by decide +kernel
theorem d_M_reset_49 : decode b_M_reset 49 = .ok (.return_, 1) := by decide +kernel
theorem d_M_reset_50 : decode b_M_reset 50 = .ok (.aload_n 0, 1) := by decide +kernel
theorem d_M_reset_51 : decode b_M_reset 51 = .ok (.getfield 44, 3) := by decide +kernel
theorem d_M_reset_54 : decode b_M_reset 54 = .ok (.iload_n 1, 1) := by decide +kernel
theorem d_M_reset_55 : decode b_M_reset 55 = .ok (.iconst 0, 1) := by decide +kernel
theorem d_M_reset_56 : decode b_M_reset 56 = .ok (.iastore, 1) := by decide +kernel
theorem d_M_reset_57 : decode b_M_reset 57 = .ok (.iload_n 1, 1) := by decide +kernel
theorem d_M_reset_58 : decode b_M_reset 58 = .ok (.iconst 1, 1) := by decide +kernel
theorem d_M_reset_59 : decode b_M_reset 59 = .ok (.iadd, 1) := by decide +kernel
theorem d_M_reset_60 : decode b_M_reset 60 = .ok (.istore_n 2, 1) := by decide +kernel
theorem d_M_reset_61 : decode b_M_reset 61 = .ok (.iload_n 2, 1) := by decide +kernel
theorem d_M_reset_62 : decode b_M_reset 62 = .ok (.aload_n 0, 1) := by decide +kernel
theorem d_M_reset_63 : decode b_M_reset 63 = .ok (.getfield 79, 3) := by decide +kernel
theorem d_M_reset_66 : decode b_M_reset 66 = .ok (.if_icmp .ge 33, 3) := by decide +kernel
theorem d_M_reset_69 : decode b_M_reset 69 = .ok (.aload_n 0, 1) := by decide +kernel
theorem d_M_reset_70 : decode b_M_reset 70 = .ok (.getfield 26, 3) := by decide +kernel
theorem d_M_reset_73 : decode b_M_reset 73 = .ok (.iload_n 2, 1) := by decide +kernel
theorem d_M_reset_74 : decode b_M_reset 74 = .ok (.aload_n 0, 1) := by decide +kernel
theorem d_M_reset_75 : decode b_M_reset 75 = .ok (.getfield 29, 3) := by decide +kernel
theorem d_M_reset_78 : decode b_M_reset 78 = .ok (.iload_n 2, 1) := by decide +kernel
theorem d_M_reset_79 : decode b_M_reset 79 = .ok (.iaload, 1) := by decide +kernel
theorem d_M_reset_80 : decode b_M_reset 80 = .ok (.iastore, 1) := by decide +kernel
theorem d_M_reset_81 : decode b_M_reset 81 = .ok (.aload_n 0, 1) := by decide +kernel
theorem d_M_reset_82 : decode b_M_reset 82 = .ok (.getfield 32, 3) := by decide +kernel
theorem d_M_reset_85 : decode b_M_reset 85 = .ok (.iload_n 2, 1) := by decide +kernel
theorem d_M_reset_86 : decode b_M_reset 86 = .ok (.aload_n 0, 1) := by decide +kernel
theorem d_M_reset_87 : decode b_M_reset 87 = .ok (.getfield 35, 3) := by decide +kernel
theorem d_M_reset_90 : decode b_M_reset 90 = .ok (.iload_n 2, 1) := by decide +kernel
theorem d_M_reset_91 : decode b_M_reset 91 = .ok (.baload, 1) := by decide +kernel
theorem d_M_reset_92 : decode b_M_reset 92 = .ok (.bastore, 1) := by decide +kernel
theorem d_M_reset_93 : decode b_M_reset 93 = .ok (.iinc 2 1, 3) := by decide +kernel
theorem d_M_reset_96 : decode b_M_reset 96 = .ok (.goto (-35), 3) := by decide +kernel
theorem d_M_reset_99 : decode b_M_reset 99 = .ok (.aload_n 0, 1) := by decide +kernel
theorem d_M_reset_100 : decode b_M_reset 100 = .ok (.aload_n 0, 1) := by decide +kernel
theorem d_M_reset_101 : decode b_M_reset 101 = .ok (.getfield 151, 3) := by decide +kernel
theorem d_M_reset_104 : decode b_M_reset 104 = .ok (.putfield 120, 3) := by decide +kernel
theorem d_M_reset_107 : decode b_M_reset 107 = .ok (.return_, 1) := by decide +kernel
theorem d_M_unread_0 : decode b_M_unread 0 = .ok (.aload_n 0, 1) := by decide +kernel
theorem d_M_unread_1 : decode b_M_unread 1 = .ok (.getfield 79, 3) := by decide +kernel
theorem d_M_unread_4 : decode b_M_unread 4 = .ok (.iconst 1, 1) := by decide +kernel
theorem d_M_unread_5 : decode b_M_unread 5 = .ok (.isub, 1) := by decide +kernel
theorem d_M_unread_6 : decode b_M_unread 6 = .ok (.istore_n 2, 1) := by decide +kernel
theorem d_M_unread_7 : decode b_M_unread 7 = .ok (.iload_n 2, 1) := by decide +kernel
theorem d_M_unread_8 : decode b_M_unread 8 = .ok (.ifCond .lt 17, 3) := by decide +kernel
theorem d_M_unread_11 : decode b_M_unread 11 = .ok (.aload_n 0, 1) := by decide +kernel
theorem d_M_unread_12 : decode b_M_unread 12 = .ok (.getfield 20, 3) := by decide +kernel
theorem d_M_unread_15 : decode b_M_unread 15 = .ok (.iload_n 2, 1) := by decide +kernel
theorem d_M_unread_16 : decode b_M_unread 16 = .ok (.iaload, 1) := by decide +kernel
theorem d_M_unread_17 : decode b_M_unread 17 = .ok (.iconst 2, 1) := by decide +kernel
theorem d_M_unread_18 : decode b_M_unread 18 = .ok (.if_icmp .ne 7, 3) := by decide +kernel
theorem d_M_unread_21 : decode b_M_unread 21 = .ok (.iconst 1, 1) := by decide +kernel
theorem d_M_unread_22 : decode b_M_unread 22 = .ok (.goto 4, 3) := by decide +kernel
theorem d_M_unread_25 : decode b_M_unread 25 = .ok (.iconst 0, 1) := by decide +kernel
theorem d_M_unread_26 : decode b_M_unread 26 = .ok (.istore_n 3, 1) := by decide +kernel
theorem d_M_unread_27 : decode b_M_unread 27 = .ok (.aload_n 0, 1) := by decide +kernel
theorem d_M_unread_28 : decode b_M_unread 28 = .ok (.aload_n 0, 1) := by decide +kernel
theorem d_M_unread_29 : decode b_M_unread 29 = .ok (.getfield 75, 3) := by decide +kernel
theorem d_M_unread_32 : decode b_M_unread 32 = .ok (.ifCond .eq 7, 3) := by decide +kernel
theorem d_M_unread_35 : decode b_M_unread 35 = .ok (.iconst 1, 1) := by decide +kernel
theorem d_M_unread_36 : decode b_M_unread 36 = .ok (.goto 46, 3) := by decide +kernel
theorem d_M_unread_39 : decode b_M_unread 39 = .ok (.iload_n 1, 1) := by decide +kernel
theorem d_M_unread_40 : decode b_M_unread 40 = .ok (.ifCond .lt 10, 3) := by decide +kernel
theorem d_M_unread_43 : decode b_M_unread 43 = .ok (.iload_n 1, 1) := by decide +kernel
theorem d_M_unread_44 : decode b_M_unread 44 = .ok (.sipush 255, 3) := by decide +kernel
theorem d_M_unread_47 : decode b_M_unread 47 = .ok (.if_icmp .le 7, 3) := by decide +kernel
theorem d_M_unread_50 : decode b_M_unread 50 = .ok (.iconst 2, 1) := by decide +kernel
theorem d_M_unread_51 : decode b_M_unread 51 = .ok (.goto 31, 3) := by decide +kernel
theorem d_M_unread_54 : decode b_M_unread 54 = .ok (.iload_n 3, 1) := by decide +kernel
theorem d_M_unread_55 : decode b_M_unread 55 = .ok (.ifCond .ne 7, 3) := by decide +kernel
theorem d_M_unread_58 : decode b_M_unread 58 = .ok (.iconst 3, 1) := by decide +kernel
theorem d_M_unread_59 : decode b_M_unread 59 = .ok (.goto 23, 3) := by decide +kernel
theorem d_M_unread_62 : decode b_M_unread 62 = .ok (.aload_n 0, 1) := by decide +kernel
theorem d_M_unread_63 : decode b_M_unread 63 = .ok (.getfield 41, 3) := by decide +kernel
theorem d_M_unread_66 : decode b_M_unread 66 = .ok (.iload_n 2, 1) := by decide +kernel
theorem d_M_unread_67 : decode b_M_unread 67 = .ok (.iaload, 1) := by decide +kernel
theorem d_M_unread_68 : decode b_M_unread 68 = .ok (.aload_n 0, 1) := by decide +kernel
theorem d_M_unread_69 : decode b_M_unread 69 = .ok (.getfield 23, 3) := by decide +kernel
theorem d_M_unread_72 : decode b_M_unread 72 = .ok (.iload_n 2, 1) := by decide +kernel
theorem d_M_unread_73 : decode b_M_unread 73 = .ok (.iaload, 1) := by decide +kernel
theorem d_M_unread_74 : decode b_M_unread 74 = .ok (.if_icmp .ne 7, 3) := by decide +kernel
theorem d_M_unread_77 : decode b_M_unread 77 = .ok (.iconst 1, 1) := by decide +kernel
theorem d_M_unread_78 : decode b_M_unread 78 = .ok (.goto 4, 3) := by decide +kernel
theorem d_M_unread_81 : decode b_M_unread 81 = .ok (.iconst 0, 1) := by decide +kernel
theorem d_M_unread_82 : decode b_M_unread 82 = .ok (.putfield 65, 3) := by decide +kernel
theorem d_M_unread_85 : decode b_M_unread 85 = .ok (.aload_n 0, 1) := by decide +kernel
theorem d_M_unread_86 : decode b_M_unread 86 = .ok (.getfield 65, 3) := by decide +kernel
theorem d_M_unread_89 : decode b_M_unread 89 = .ok (.ifCond .le 4, 3) := by decide +kernel
theorem d_M_unread_92 : decode b_M_unread 92 = .ok (.return_, 1) := by decide +kernel
theorem d_M_unread_93 : decode b_M_unread 93 = .ok (.aload_n 0, 1) := by decide +kernel
theorem d_M_unread_94 : decode b_M_unread 94 = .ok (.getfield 38, 3) := by decide +kernel
theorem d_M_unread_97 : decode b_M_unread 97 = .ok (.bipush 64, 2) := by decide +kernel
theorem d_M_unread_99 : decode b_M_unread 99 = .ok (.iload_n 2, 1) := by decide +kernel
theorem d_M_unread_100 : decode b_M_unread 100 = .ok (.imul, 1) := by decide +kernel
theorem d_M_unread_101 : decode b_M_unread 101 = .ok (.aload_n 0, 1) := by decide +kernel
theorem d_M_unread_102 : decode b_M_unread 102 = .ok (.getfield 41, 3) := by decide +kernel
theorem d_M_unread_105 : decode b_M_unread 105 = .ok (.iload_n 2, 1) := by decide +kernel
theorem d_M_unread_106 : decode b_M_unread 106 = .ok (.iaload, 1) := by decide +kernel
theorem d_M_unread_107 : decode b_M_unread 107 = .ok (.iadd, 1) := by decide +kernel
theorem d_M_unread_108 : decode b_M_unread 108 = .ok (.iload_n 1, 1) := by decide +kernel
theorem d_M_unread_109 : decode b_M_unread 109 = .ok (.iastore, 1) := by decide +kernel
theorem d_M_unread_110 : decode b_M_unread 110 = .ok (.aload_n 0, 1) := by decide +kernel
theorem d_M_unread_111 : decode b_M_unread 111 = .ok (.getfield 41, 3) := by decide +kernel
theorem d_M_unread_114 : decode b_M_unread 114 = .ok (.iload_n 2, 1) := by decide +kernel
theorem d_M_unread_115 : decode b_M_unread 115 = .ok (.aload_n 0, 1) := by decide +kernel
theorem d_M_unread_116 : decode b_M_unread 116 = .ok (.getfield 41, 3) := by decide +kernel
theorem d_M_unread_119 : decode b_M_unread 119 = .ok (.iload_n 2, 1) := by decide +kernel
theorem d_M_unread_120 : decode b_M_unread 120 = .ok (.iaload, 1) := by decide +kernel
theorem d_M_unread_121 : decode b_M_unread 121 = .ok (.iconst 1, 1) := by decide +kernel
theorem d_M_unread_122 : decode b_M_unread 122 = .ok (.iadd, 1) := by decide +kernel
theorem d_M_unread_123 : decode b_M_unread 123 = .ok (.iastore, 1) := by decide +kernel
theorem d_M_unread_124 : decode b_M_unread 124 = .ok (.return_, 1) := by decide +kernel
theorem d_M_available_0 : decode b_M_available 0 = .ok (.aload_n 0, 1) := by decide +kernel
theorem d_M_available_1 : decode b_M_available 1 = .ok (.iconst 0, 1) := by decide +kernel
theorem d_M_available_2 : decode b_M_available 2 = .ok (.putfield 65, 3) := by decide +kernel
theorem d_M_available_5 : decode b_M_available 5 = .ok (.aload_n 0, 1) := by decide +kernel
theorem d_M_available_6 : decode b_M_available 6 = .ok (.invokevirtual 110, 3) := by decide +kernel
theorem d_M_available_9 : decode b_M_available 9 = .ok (.istore_n 1, 1) := by decide +kernel
theorem d_M_available_10 : decode b_M_available 10 = .ok (.iconst 0, 1) := by decide +kernel
theorem d_M_available_11 : decode b_M_available 11 = .ok (.istore_n 2, 1) := by decide +kernel
theorem d_M_available_12 : decode b_M_available 12 = .ok (.iload_n 2, 1) := by decide +kernel
theorem d_M_available_13 : decode b_M_available 13 = .ok (.aload_n 0, 1) := by decide +kernel
theorem d_M_available_14 : decode b_M_available 14 = .ok (.getfield 79, 3) := by decide +kernel
theorem d_M_available_17 : decode b_M_available 17 = .ok (.if_icmp .ge 73, 3) := by decide +kernel
theorem d_M_available_20 : decode b_M_available 20 = .ok (.aload_n 0, 1) := by decide +kernel
theorem d_M_available_21 : decode b_M_available 21 = .ok (.getfield 20, 3) := by decide +kernel
theorem d_M_available_24 : decode b_M_available 24 = .ok (.iload_n 2, 1) := by decide +kernel
theorem d_M_available_25 : decode b_M_available 25 = .ok (.iaload, 1) := by decide +kernel
theorem d_M_available_26 : decode b_M_available 26 = .ok (.iconst 1, 1) := by decide +kernel
theorem d_M_available_27 : decode b_M_available 27 = .ok (.if_icmp .ne 11, 3) := by decide +kernel
theorem d_M_available_30 : decode b_M_available 30 = .ok (.iload_n 1, 1) := by decide +kernel
theorem d_M_available_31 : decode b_M_available 31 = .ok (.aload_n 0, 1) := by decide +kernel
theorem d_M_available_32 : decode b_M_available 32 = .ok (.iload_n 2, 1) := by decide +kernel
theorem d_M_available_33 : decode b_M_available 33 = .ok (.invokevirtual 82, 3) := by decide +kernel
theorem d_M_available_36 : decode b_M_available 36 = .ok (.iadd, 1) := by decide +kernel
theorem d_M_available_37 : decode b_M_available 37 = .ok (.istore_n 1, 1) := by decide +kernel
theorem d_M_available_38 : decode b_M_available 38 = .ok (.aload_n 0, 1) := by decide +kernel
theorem d_M_available_39 : decode b_M_available 39 = .ok (.getfield 20, 3) := by decide +kernel
theorem d_M_available_42 : decode b_M_available 42 = .ok (.iload_n 2, 1) := by decide +kernel
theorem d_M_available_43 : decode b_M_available 43 = .ok (.iaload, 1) := by decide +kernel
theorem d_M_available_44 : decode b_M_available 44 = .ok (.iconst 2, 1) := by decide +kernel
theorem d_M_available_45 : decode b_M_available 45 = .ok (.if_icmp .ne 12, 3) := by decide +kernel
theorem d_M_available_48 : decode b_M_available 48 = .ok (.iload_n 1, 1) := by decide +kernel
theorem d_M_available_49 : decode b_M_available 49 = .ok (.aload_n 0, 1) := by decide +kernel
theorem d_M_available_50 : decode b_M_available 50 = .ok (.getfield 41, 3) := by decide +kernel
theorem d_M_available_53 : decode b_M_available 53 = .ok (.iload_n 2, 1) := by decide +kernel
theorem d_M_available_54 : decode b_M_available 54 = .ok (.iaload, 1) := by decide +kernel
theorem d_M_available_55 : decode b_M_available 55 = .ok (.iadd, 1) := by decide +kernel
theorem d_M_available_56 : decode b_M_available 56 = .ok (.istore_n 1, 1) := by decide +kernel
theorem d_M_available_57 : decode b_M_available 57 = .ok (.aload_n 0, 1) := by decide +kernel
theorem d_M_available_58 : decode b_M_available 58 = .ok (.getfield 20, 3) := by decide +kernel
theorem d_M_available_61 : decode b_M_available 61 = .ok (.iload_n 2, 1) := by decide +kernel
theorem d_M_available_62 : decode b_M_available 62 = .ok (.iaload, 1) := by decide +kernel
theorem d_M_available_63 : decode b_M_available 63 = .ok (.iconst 3, 1) := by decide +kernel
theorem d_M_available_64 : decode b_M_available 64 = .ok (.if_icmp .ne 20, 3) := by decide +kernel
theorem d_M_available_67 : decode b_M_available 67 = .ok (.aload_n 0, 1) := by decide +kernel
theorem d_M_available_68 : decode b_M_available 68 = .ok (.getfield 26, 3) := by decide +kernel
theorem d_M_available_71 : decode b_M_available 71 = .ok (.iload_n 2, 1) := by decide +kernel
theorem d_M_available_72 : decode b_M_available 72 = .ok (.iaload, 1) := by decide +kernel
theorem d_M_available_73 : decode b_M_available 73 = .ok (.iload_n 1, 1) := by decide +kernel
theorem d_M_available_74 : decode b_M_available 74 = .ok (.if_icmp .ge 10, 3) := by decide +kernel
theorem d_M_available_77 : decode b_M_available 77 = .ok (.aload_n 0, 1) := by decide +kernel
theorem d_M_available_78 : decode b_M_available 78 = .ok (.getfield 26, 3) := by decide +kernel
theorem d_M_available_81 : decode b_M_available 81 = .ok (.iload_n 2, 1) := by decide +kernel
theorem d_M_available_82 : decode b_M_available 82 = .ok (.iaload, 1) := by decide +kernel
theorem d_M_available_83 : decode b_M_available 83 = .ok (.istore_n 1, 1) := by decide +kernel
theorem d_M_available_84 : decode b_M_available 84 = .ok (.iinc 2 1, 3) := by decide +kernel
theorem d_M_available_87 : decode b_M_available 87 = .ok (.goto (-75), 3) := by decide +kernel
theorem d_M_available_90 : decode b_M_available 90 = .ok (.iload_n 1, 1) := by decide +kernel
theorem d_M_available_91 : decode b_M_available 91 = .ok (.ireturn, 1) := by decide +kernel
theorem d_M_close_0 : decode b_M_close 0 = .ok (.aload_n 0, 1) := by decide +kernel
theorem d_M_close_1 : decode b_M_close 1 = .ok (.iconst 0, 1) := by decide +kernel
theorem d_M_close_2 : decode b_M_close 2 = .ok (.putfield 65, 3) := by decide +kernel
theorem d_M_close_5 : decode b_M_close 5 = .ok (.aload_n 0, 1) := by decide +kernel
theorem d_M_close_6 : decode b_M_close 6 = .ok (.iconst 1, 1) := by decide +kernel
theorem d_M_close_7 : decode b_M_close 7 = .ok (.putfield 75, 3) := by decide +kernel
theorem d_M_close_10 : decode b_M_close 10 = .ok (.return_, 1) := by decide +kernel
theorem d_M_about_0 : decode b_M_about 0 = .ok (.aload_n 0, 1) := by decide +kernel
theorem d_M_about_1 : decode b_M_about 1 = .ok (.iconst 0, 1) := by decide +kernel
theorem d_M_about_2 : decode b_M_about 2 = .ok (.putfield 65, 3) := by decide +kernel
theorem d_M_about_5 : decode b_M_about 5 = .ok (.iload_n 1, 1) := by decide +kernel
theorem d_M_about_6 : decode b_M_about 6 = .ok (.iconst (-1), 1) := by decide +kernel
theorem d_M_about_7 : decode b_M_about 7 = .ok (.if_icmp .ne 8, 3) := by decide +kernel
theorem d_M_about_10 : decode b_M_about 10 = .ok (.aload_n 0, 1) := by decide +kernel
theorem d_M_about_11 : decode b_M_about 11 = .ok (.getfield 72, 3) := by decide +kernel
theorem d_M_about_14 : decode b_M_about 14 = .ok (.ireturn, 1) := by decide +kernel
theorem d_M_about_15 : decode b_M_about 15 = .ok (.iload_n 1, 1) := by decide +kernel
theorem d_M_about_16 : decode b_M_about 16 = .ok (.ifCond .lt 11, 3) := by decide +kernel
theorem d_M_about_19 : decode b_M_about 19 = .ok (.iload_n 1, 1) := by decide +kernel
theorem d_M_about_20 : decode b_M_about 20 = .ok (.aload_n 0, 1) := by decide +kernel
theorem d_M_about_21 : decode b_M_about 21 = .ok (.getfield 79, 3) := by decide +kernel
theorem d_M_about_24 : decode b_M_about 24 = .ok (.if_icmp .lt 5, 3) := by decide +kernel
theorem d_M_about_27 : decode b_M_about 27 = .ok (.iconst (-1), 1) := by decide +kernel
theorem d_M_about_28 : decode b_M_about 28 = .ok (.ireturn, 1) := by decide +kernel
theorem d_M_about_29 : decode b_M_about 29 = .ok (.aload_n 0, 1) := by decide +kernel
theorem d_M_about_30 : decode b_M_about 30 = .ok (.getfield 20, 3) := by decide +kernel
theorem d_M_about_33 : decode b_M_about 33 = .ok (.iload_n 1, 1) := by decide +kernel
theorem d_M_about_34 : decode b_M_about 34 = .ok (.iaload, 1) := by decide +kernel
theorem d_M_about_35 : decode b_M_about 35 = .ok (.iconst 1, 1) := by decide +kernel
theorem d_M_about_36 : decode b_M_about 36 = .ok (.if_icmp .ne 11, 3) := by decide +kernel
theorem d_M_about_39 : decode b_M_about 39 = .ok (.aload_n 0, 1) := by decide +kernel
theorem d_M_about_40 : decode b_M_about 40 = .ok (.iload_n 1, 1) := by decide +kernel
theorem d_M_about_41 : decode b_M_about 41 = .ok (.invokevirtual 82, 3) := by decide +kernel
theorem d_M_about_44 : decode b_M_about 44 = .ok (.goto 28, 3) := by decide +kernel
theorem d_M_about_47 : decode b_M_about 47 = .ok (.aload_n 0, 1) := by decide +kernel
theorem d_M_about_48 : decode b_M_about 48 = .ok (.getfield 20, 3) := by decide +kernel
theorem d_M_about_51 : decode b_M_about 51 = .ok (.iload_n 1, 1) := by decide +kernel
theorem d_M_about_52 : decode b_M_about 52 = .ok (.iaload, 1) := by decide +kernel
theorem d_M_about_53 : decode b_M_about 53 = .ok (.iconst 2, 1) := by decide +kernel
theorem d_M_about_54 : decode b_M_about 54 = .ok (.if_icmp .ne 12, 3) := by decide +kernel
theorem d_M_about_57 : decode b_M_about 57 = .ok (.aload_n 0, 1) := by decide +kernel
theorem d_M_about_58 : decode b_M_about 58 = .ok (.getfield 41, 3) := by decide +kernel
theorem d_M_about_61 : decode b_M_about 61 = .ok (.iload_n 1, 1) := by decide +kernel
theorem d_M_about_62 : decode b_M_about 62 = .ok (.iaload, 1) := by decide +kernel
theorem d_M_about_63 : decode b_M_about 63 = .ok (.goto 9, 3) := by decide +kernel
theorem d_M_about_66 : decode b_M_about 66 = .ok (.aload_n 0, 1) := by decide +kernel
theorem d_M_about_67 : decode b_M_about 67 = .ok (.getfield 26, 3) := by decide +kernel
theorem d_M_about_70 : decode b_M_about 70 = .ok (.iload_n 1, 1) := by decide +kernel
theorem d_M_about_71 : decode b_M_about 71 = .ok (.iaload, 1) := by decide +kernel
theorem d_M_about_72 : decode b_M_about 72 = .ok (.ireturn, 1) := by decide +kernel
theorem d_M_size_0 : decode b_M_size 0 = .ok (.aload_n 0, 1) := by decide +kernel
theorem d_M_size_1 : decode b_M_size 1 = .ok (.iconst 0, 1) := by decide +kernel
theorem d_M_size_2 : decode b_M_size 2 = .ok (.putfield 65, 3) := by decide +kernel
theorem d_M_size_5 : decode b_M_size 5 = .ok (.iload_n 1, 1) := by decide +kernel
theorem d_M_size_6 : decode b_M_size 6 = .ok (.ifCond .eq 10, 3) := by decide +kernel
theorem d_M_size_9 : decode b_M_size 9 = .ok (.aload_n 0, 1) := by decide +kernel
theorem d_M_size_10 : decode b_M_size 10 = .ok (.getfield 141, 3) := by decide +kernel
theorem d_M_size_13 : decode b_M_size 13 = .ok (.goto 7, 3) := by decide +kernel
theorem d_M_size_16 : decode b_M_size 16 = .ok (.aload_n 0, 1) := by decide +kernel
theorem d_M_size_17 : decode b_M_size 17 = .ok (.getfield 123, 3) := by decide +kernel
theorem d_M_size_20 : decode b_M_size 20 = .ok (.ireturn, 1) := by decide +kernel
theorem md_M_line : md_Ok y_M_line (.code y_M_line b_M_line 4 (some .int)) 4 := ⟨wd_908, wd_5, ⟨by decide, by decide⟩, Or.inl ⟨_, _, rfl⟩⟩
theorem ml_M_line : (parseMethodDescriptor y_M_line.desc).map (fun d => d.parameters.length) = some 0 := by decide +kernel
theorem md_M_bufferBelow : md_Ok y_M_bufferBelow (.code y_M_bufferBelow b_M_bufferBelow 2 (some .int)) 2 := ⟨wd_916, wd_5, ⟨by decide, by decide⟩, Or.inl ⟨_, _, rfl⟩⟩
theorem ml_M_bufferBelow : (parseMethodDescriptor y_M_bufferBelow.desc).map (fun d => d.parameters.length) = some 0 := by decide +kernel
theorem fl_M_151 : fl_Ok "StreamTowerModel" 151 "StreamTowerModel" "leavesMarked" "Z" "StreamTowerModel" [8] 23 false (.boolean) := ⟨wd_735, by decide +kernel, Or.inl rfl, fun t ht => by obtain rfl := List.mem_singleton.mp ht; exact ⟨_, _, _, rfl, by decide, rfl⟩⟩
theorem md_M_mark : md_Ok y_M_mark (.code y_M_mark b_M_mark 4 none) 4 := ⟨wd_912, wd_5, ⟨by decide, by decide⟩, Or.inl ⟨_, _, rfl⟩⟩
theorem ml_M_mark : (parseMethodDescriptor y_M_mark.desc).map (fun d => d.parameters.length) = some 1 := by decide +kernel
theorem md_M_reset : md_Ok y_M_reset (.code y_M_reset b_M_reset 3 none) 3 := ⟨wd_920, wd_5, ⟨by decide, by decide⟩, Or.inl ⟨_, _, rfl⟩⟩
theorem ml_M_reset : (parseMethodDescriptor y_M_reset.desc).map (fun d => d.parameters.length) = some 0 := by decide +kernel
theorem md_M_unread : md_Ok y_M_unread (.code y_M_unread b_M_unread 4 none) 4 := ⟨wd_924, wd_5, ⟨by decide, by decide⟩, Or.inl ⟨_, _, rfl⟩⟩
theorem ml_M_unread : (parseMethodDescriptor y_M_unread.desc).map (fun d => d.parameters.length) = some 1 := by decide +kernel
theorem md_M_available : md_Ok y_M_available (.code y_M_available b_M_available 3 (some .int)) 3 := ⟨wd_928, wd_5, ⟨by decide, by decide⟩, Or.inl ⟨_, _, rfl⟩⟩
theorem ml_M_available : (parseMethodDescriptor y_M_available.desc).map (fun d => d.parameters.length) = some 0 := by decide +kernel
theorem md_M_close : md_Ok y_M_close (.code y_M_close b_M_close 1 none) 1 := ⟨wd_932, wd_5, ⟨by decide, by decide⟩, Or.inl ⟨_, _, rfl⟩⟩
theorem ml_M_close : (parseMethodDescriptor y_M_close.desc).map (fun d => d.parameters.length) = some 0 := by decide +kernel
theorem md_M_about : md_Ok y_M_about (.code y_M_about b_M_about 2 (some .int)) 2 := ⟨wd_936, wd_5, ⟨by decide, by decide⟩, Or.inl ⟨_, _, rfl⟩⟩
theorem ml_M_about : (parseMethodDescriptor y_M_about.desc).map (fun d => d.parameters.length) = some 1 := by decide +kernel
theorem md_M_size : md_Ok y_M_size (.code y_M_size b_M_size 2 (some .int)) 2 := ⟨wd_940, wd_5, ⟨by decide, by decide⟩, Or.inl ⟨_, _, rfl⟩⟩
theorem ml_M_size : (parseMethodDescriptor y_M_size.desc).map (fun d => d.parameters.length) = some 1 := by decide +kernel
def f_M_line_b172 (sv0 : Int32) (h0 : Hs_t) : Rs_t := re_I sv0 h0
def f_M_line_b164 (t0 : Nat) (h0 : Hs_t) : Rs_t := (fd_I [8] 25 h0 t0).bind fun v10 => f_M_line_b172 v10 h0
def f_M_line_b139 (r36 : Nat → Int32 → Int32 → Hs_t → Rs_t) (t0 : Nat) (x1 : Int32) (x2 : Int32) (h0 : Hs_t) : Rs_t := r36 t0 x1 x2 h0
def f_M_line_b128 (r36 : Nat → Int32 → Int32 → Hs_t → Rs_t) (t0 : Nat) (x1 : Int32) (x2 : Int32) (sv0 : Int32) (sv1 : Nat) (h0 : Hs_t) : Rs_t := (pt_Z [8] 22 h0 sv1 sv0).bind fun h5 => if x1 = 0 then (f_M_line_b139 r36 t0 x1 x2 h5) else ((ck_T [8] h5 t0).bind fun _ => bd_V (f_M_putBag t0 h5) (fun h6 => f_M_line_b139 r36 t0 x1 x2 h6))
def f_M_line_b123 (r36 : Nat → Int32 → Int32 → Hs_t → Rs_t) (t0 : Nat) (x1 : Int32) (x2 : Int32) (sv0 : Nat) (h0 : Hs_t) : Rs_t := f_M_line_b128 r36 t0 x1 x2 1 sv0 h0
def f_M_line_b108 (r36 : Nat → Int32 → Int32 → Hs_t → Rs_t) (t0 : Nat) (x1 : Int32) (x3 : Int32) (sv0 : Int32) (h0 : Hs_t) : Rs_t := (fd_I [8] 22 h0 t0).bind fun v9 => if v9 = 0 then (if x3 = 13 then (f_M_line_b123 r36 t0 x1 sv0 t0 h0) else (f_M_line_b128 r36 t0 x1 sv0 0 t0 h0)) else (f_M_line_b123 r36 t0 x1 sv0 t0 h0)
def f_M_line_b107 (r36 : Nat → Int32 → Int32 → Hs_t → Rs_t) (t0 : Nat) (x1 : Int32) (x3 : Int32) (h0 : Hs_t) : Rs_t := f_M_line_b108 r36 t0 x1 x3 0 h0
def f_M_line_b94 (r36 : Nat → Int32 → Int32 → Hs_t → Rs_t) (t0 : Nat) (x3 : Int32) (sv0 : Int32) (h0 : Hs_t) : Rs_t := if x3 < 0 then (f_M_line_b107 r36 t0 sv0 x3 h0) else (if sv0 = 0 then (f_M_line_b108 r36 t0 sv0 x3 1 h0) else (f_M_line_b107 r36 t0 sv0 x3 h0))
def f_M_line_b93 (r36 : Nat → Int32 → Int32 → Hs_t → Rs_t) (t0 : Nat) (x3 : Int32) (h0 : Hs_t) : Rs_t := f_M_line_b94 r36 t0 x3 0 h0
def f_M_line_b72 (r36 : Nat → Int32 → Int32 → Hs_t → Rs_t) (t0 : Nat) (sv0 : Int32) (h0 : Hs_t) : Rs_t := if sv0 < 0 then (f_M_line_b93 r36 t0 sv0 h0) else (if sv0 = 10 then (f_M_line_b93 r36 t0 sv0 h0) else (if sv0 = 13 then (f_M_line_b93 r36 t0 sv0 h0) else (f_M_line_b94 r36 t0 sv0 1 h0)))
def f_M_line_b36 : Nat → Nat → Int32 → Int32 → Hs_t → Rs_t
  | 0, _, _, _, _ => none
  | n + 1, t0, x1, x2, h0 => if x1 = 0 then ((fd_I [8] 0 h0 t0).bind fun v3 => if v3 ≤ 0 then (if x2 = 0 then ((fd_I [8] 25 h0 t0).bind fun v4 => if v4 ≤ 0 then (f_M_line_b172 (-1) h0) else (f_M_line_b164 t0 h0)) else (f_M_line_b164 t0 h0)) else (f_M_line_b172 0 h0)) else ((ck_T [8] h0 t0).bind fun _ => bd_I (f_M_reads t0 1 h0) (fun v5 h3 => if v5 = 0 then ((pt_V [8] 0 h3 t0 (.int 1)).bind fun h4 => re_I 0 h4) else ((fd_I [8] 20 h3 t0).bind fun v6 => if v6 = 0 then (f_M_line_b72 (f_M_line_b36 n) t0 (-1) h3) else ((fd_A [8] 19 h3 t0).bind fun v7 => (ar_I h3 v7 0).bind fun v8 => f_M_line_b72 (f_M_line_b36 n) t0 v8 h3))))
def f_M_line_b33 (t0 : Nat) (sv0 : Int32) (h0 : Hs_t) : Rs_t := f_M_line_b36 fu_N t0 sv0 0 h0
def f_M_line_b18 (t0 : Nat) (sv0 : Int32) (sv1 : Nat) (h0 : Hs_t) : Rs_t := (pt_V [8] 0 h0 sv1 (.int sv0)).bind fun h2 => (fd_I [8] 0 h2 t0).bind fun v2 => if v2 = 0 then (f_M_line_b33 t0 1 h2) else (f_M_line_b33 t0 0 h2)
def f_M_line (t0 : Nat) (h0 : Hs_t) : Rs_t := (pt_V [8] 25 h0 t0 (.int 0)).bind fun h1 => (fd_I [8] 21 h1 t0).bind fun v1 => if v1 = 0 then (f_M_line_b18 t0 0 t0 h1) else (f_M_line_b18 t0 1 t0 h1)
set_option maxRecDepth 100000 in
set_option maxHeartbeats 4000000 in
theorem k_M_line_b172 {p : Program} {l : Launch} {e : Env} {s : State} {m : MethodId} {args : Array Value} {below : List Frame} {meth : Method} {c : Code} {s0 : State} {A0 : Array Value} {G : Gx_t} {r : Outcome × Hs_t} {rm : Room} (hc : Cx_t p s m meth c s0 A0 l G y_M_line b_M_line 4 (some .int) []) (hrm : rm_Ok 0 0 5 116 rm) : ∀ (sv0 : Int32) (h0 : Hs_t) (H : Heap) (locs : List Loc) (ls : Array Slot), Rp_h G s0.heap h0 H → Lo_k s0 locs → lv_has ls 4 [] → f_M_line_b172 sv0 h0 = some r → W p l e rm s m args below meth c H locs 0 0 (xq_MQ G s0 below r s rm.cells rm.slots) (F0 m 172 ls [.int sv0]) := by
  have hx := hc.x
  have hb := hc.b
  obtain ⟨hm1, hm2, hm3, hm4⟩ := id hrm
  intro sv0 h0 H locs ls hR hLo hl heq
  unfold f_M_line_b172 at heq
  exact x_iret hc hR hLo ⟨by omega, by omega⟩ heq d_M_line_172
set_option maxRecDepth 100000 in
set_option maxHeartbeats 4000000 in
theorem k_M_line_b164 {p : Program} {l : Launch} {e : Env} {s : State} {m : MethodId} {args : Array Value} {below : List Frame} {meth : Method} {c : Code} {s0 : State} {A0 : Array Value} {G : Gx_t} {r : Outcome × Hs_t} {rm : Room} (hc : Cx_t p s m meth c s0 A0 l G y_M_line b_M_line 4 (some .int) []) (hrm : rm_Ok 0 0 5 116 rm) : ∀ (t0 : Nat) (h0 : Hs_t) (H : Heap) (locs : List Loc) (ls : Array Slot), Rp_h G s0.heap h0 H → Lo_k s0 locs → lv_has ls 4 [(0, .ref t0)] → f_M_line_b164 t0 h0 = some r → W p l e rm s m args below meth c H locs 0 0 (xq_MQ G s0 below r s rm.cells rm.slots) (F0 m 164 ls []) := by
  have hx := hc.x
  have hb := hc.b
  obtain ⟨hm1, hm2, hm3, hm4⟩ := id hrm
  intro t0 h0 H locs ls hR hLo hl heq
  unfold f_M_line_b164 at heq
  refine lv_aload_n hx hb d_M_line_164 rfl (lv_at hl 0 rfl) ?_
  refine x_gI hc hR fl_M_123 heq d_M_line_165 (fun v10 heq => ?_)
  refine lv_goto (tgt := 172) hx hb d_M_line_168 rfl ?_
  refine W.widen (k := 0) (n := 0) (by omega) (by omega) ?_
  exact k_M_line_b172 hc hrm v10 h0 H locs ls hR hLo (lv_sub hl [] rfl) heq
set_option maxRecDepth 100000 in
set_option maxHeartbeats 4000000 in
theorem k_M_line_b139 {p : Program} {l : Launch} {e : Env} {s : State} {m : MethodId} {args : Array Value} {below : List Frame} {meth : Method} {c : Code} {s0 : State} {A0 : Array Value} {G : Gx_t} {r : Outcome × Hs_t} {rm : Room} (r36 : Nat → Int32 → Int32 → Hs_t → Rs_t) (hc : Cx_t p s m meth c s0 A0 l G y_M_line b_M_line 4 (some .int) []) (hrm : rm_Ok 0 0 5 116 rm) (hr36 : ∀ (t0 : Nat) (x1 : Int32) (x2 : Int32) (h0 : Hs_t) (H : Heap) (locs : List Loc) (ls : Array Slot), Rp_h G s0.heap h0 H → Lo_k s0 locs → lv_has ls 4 [(0, .ref t0), (1, .int x1), (2, .int x2)] → r36 t0 x1 x2 h0 = some r → W p l e rm s m args below meth c H locs 0 0 (xq_MQ G s0 below r s rm.cells rm.slots) (F0 m 36 ls [])) : ∀ (t0 : Nat) (x1 : Int32) (x2 : Int32) (h0 : Hs_t) (H : Heap) (locs : List Loc) (ls : Array Slot), Rp_h G s0.heap h0 H → Lo_k s0 locs → lv_has ls 4 [(0, .ref t0), (1, .int x1), (2, .int x2)] → f_M_line_b139 r36 t0 x1 x2 h0 = some r → W p l e rm s m args below meth c H locs 0 0 (xq_MQ G s0 below r s rm.cells rm.slots) (F0 m 139 ls []) := by
  have hx := hc.x
  have hb := hc.b
  obtain ⟨hm1, hm2, hm3, hm4⟩ := id hrm
  intro t0 x1 x2 h0 H locs ls hR hLo hl heq
  unfold f_M_line_b139 at heq
  refine lv_goto (tgt := 36) hx hb d_M_line_139 rfl ?_
  refine W.widen (k := 0) (n := 0) (by omega) (by omega) ?_
  exact hr36 t0 x1 x2 h0 H locs ls hR hLo (lv_sub hl [0, 1, 2] rfl) heq
set_option maxRecDepth 100000 in
set_option maxHeartbeats 4000000 in
theorem k_M_line_b128 {p : Program} {l : Launch} {e : Env} {s : State} {m : MethodId} {args : Array Value} {below : List Frame} {meth : Method} {c : Code} {s0 : State} {A0 : Array Value} {G : Gx_t} {r : Outcome × Hs_t} {rm : Room} (r36 : Nat → Int32 → Int32 → Hs_t → Rs_t) (hc : Cx_t p s m meth c s0 A0 l G y_M_line b_M_line 4 (some .int) []) (hrm : rm_Ok 0 0 5 116 rm) (hr36 : ∀ (t0 : Nat) (x1 : Int32) (x2 : Int32) (h0 : Hs_t) (H : Heap) (locs : List Loc) (ls : Array Slot), Rp_h G s0.heap h0 H → Lo_k s0 locs → lv_has ls 4 [(0, .ref t0), (1, .int x1), (2, .int x2)] → r36 t0 x1 x2 h0 = some r → W p l e rm s m args below meth c H locs 0 0 (xq_MQ G s0 below r s rm.cells rm.slots) (F0 m 36 ls [])) : ∀ (t0 : Nat) (x1 : Int32) (x2 : Int32) (sv0 : Int32) (sv1 : Nat) (h0 : Hs_t) (H : Heap) (locs : List Loc) (ls : Array Slot), Rp_h G s0.heap h0 H → Lo_k s0 locs → lv_has ls 4 [(0, .ref t0), (1, .int x1), (2, .int x2)] → f_M_line_b128 r36 t0 x1 x2 sv0 sv1 h0 = some r → W p l e rm s m args below meth c H locs 0 0 (xq_MQ G s0 below r s rm.cells rm.slots) (F0 m 128 ls [.int sv0, .ref sv1]) := by
  have hx := hc.x
  have hb := hc.b
  obtain ⟨hm1, hm2, hm3, hm4⟩ := id hrm
  intro t0 x1 x2 sv0 sv1 h0 H locs ls hR hLo hl heq
  unfold f_M_line_b128 at heq
  refine x_pZ hc hR hLo fl_M_120 (Or.inl rfl) heq d_M_line_128 (fun h5 H locs hR hLo heq => ?_)
  refine lv_iload_n hx hb d_M_line_131 rfl (lv_at hl 1 rfl) ?_
  refine lv_if_eq (tgt := 139) hx hb d_M_line_132 rfl (fun hq => ?_) (fun hq => ?_)
  · rw [if_pos hq] at heq
    refine W.widen (k := 0) (n := 0) (by omega) (by omega) ?_
    exact k_M_line_b139 _ hc hrm hr36 t0 x1 x2 h5 H locs ls hR hLo (lv_sub hl [0, 1, 2] rfl) heq
  · rw [if_neg hq] at heq
    refine lv_aload_n hx hb d_M_line_135 rfl (lv_at hl 0 rfl) ?_
    refine x_ck heq (fun tt fs ha ht heq => ?_)
    obtain rfl : tt = 8 := by simpa using ht
    refine x_bV (mc := 0) (ms := 0) (st := []) hc hLo heq ⟨by omega, by omega⟩ (fun r9 h9 => x_runV hc (c_M_putBag hc.g rm_M_putBag rk_M_putBag _ _ _ h9) md_M_putBag hR ha rfl wd_865 wd_867 sp_22 hl.1 ml_M_putBag rfl (Nat.le_of_ble_eq_true rfl) d_M_line_136 ⟨by show 0 + 1 ≤ _; omega, by show 8 + (2 + 11) + (0) ≤ _; omega⟩ ⟨by show 0 + 0 ≤ _; omega, by show 0 + 0 ≤ _; omega⟩) (fun h6 H locs hR hLo heq => ?_)
    refine W.widen (k := 0) (n := 0) (by omega) (by omega) ?_
    exact k_M_line_b139 _ hc hrm hr36 t0 x1 x2 h6 H locs ls hR hLo (lv_sub hl [0, 1, 2] rfl) heq
set_option maxRecDepth 100000 in
set_option maxHeartbeats 4000000 in
theorem k_M_line_b123 {p : Program} {l : Launch} {e : Env} {s : State} {m : MethodId} {args : Array Value} {below : List Frame} {meth : Method} {c : Code} {s0 : State} {A0 : Array Value} {G : Gx_t} {r : Outcome × Hs_t} {rm : Room} (r36 : Nat → Int32 → Int32 → Hs_t → Rs_t) (hc : Cx_t p s m meth c s0 A0 l G y_M_line b_M_line 4 (some .int) []) (hrm : rm_Ok 0 0 5 116 rm) (hr36 : ∀ (t0 : Nat) (x1 : Int32) (x2 : Int32) (h0 : Hs_t) (H : Heap) (locs : List Loc) (ls : Array Slot), Rp_h G s0.heap h0 H → Lo_k s0 locs → lv_has ls 4 [(0, .ref t0), (1, .int x1), (2, .int x2)] → r36 t0 x1 x2 h0 = some r → W p l e rm s m args below meth c H locs 0 0 (xq_MQ G s0 below r s rm.cells rm.slots) (F0 m 36 ls [])) : ∀ (t0 : Nat) (x1 : Int32) (x2 : Int32) (sv0 : Nat) (h0 : Hs_t) (H : Heap) (locs : List Loc) (ls : Array Slot), Rp_h G s0.heap h0 H → Lo_k s0 locs → lv_has ls 4 [(0, .ref t0), (1, .int x1), (2, .int x2)] → f_M_line_b123 r36 t0 x1 x2 sv0 h0 = some r → W p l e rm s m args below meth c H locs 0 0 (xq_MQ G s0 below r s rm.cells rm.slots) (F0 m 123 ls [.ref sv0]) := by
  have hx := hc.x
  have hb := hc.b
  obtain ⟨hm1, hm2, hm3, hm4⟩ := id hrm
  intro t0 x1 x2 sv0 h0 H locs ls hR hLo hl heq
  unfold f_M_line_b123 at heq
  refine lv_iconst (v := 1) hx hb d_M_line_123 (by decide) ?_
  refine lv_goto (tgt := 128) hx hb d_M_line_124 rfl ?_
  refine W.widen (k := 0) (n := 0) (by omega) (by omega) ?_
  exact k_M_line_b128 _ hc hrm hr36 t0 x1 x2 1 sv0 h0 H locs ls hR hLo (lv_sub hl [0, 1, 2] rfl) heq
set_option maxRecDepth 100000 in
set_option maxHeartbeats 4000000 in
theorem k_M_line_b108 {p : Program} {l : Launch} {e : Env} {s : State} {m : MethodId} {args : Array Value} {below : List Frame} {meth : Method} {c : Code} {s0 : State} {A0 : Array Value} {G : Gx_t} {r : Outcome × Hs_t} {rm : Room} (r36 : Nat → Int32 → Int32 → Hs_t → Rs_t) (hc : Cx_t p s m meth c s0 A0 l G y_M_line b_M_line 4 (some .int) []) (hrm : rm_Ok 0 0 5 116 rm) (hr36 : ∀ (t0 : Nat) (x1 : Int32) (x2 : Int32) (h0 : Hs_t) (H : Heap) (locs : List Loc) (ls : Array Slot), Rp_h G s0.heap h0 H → Lo_k s0 locs → lv_has ls 4 [(0, .ref t0), (1, .int x1), (2, .int x2)] → r36 t0 x1 x2 h0 = some r → W p l e rm s m args below meth c H locs 0 0 (xq_MQ G s0 below r s rm.cells rm.slots) (F0 m 36 ls [])) : ∀ (t0 : Nat) (x1 : Int32) (x3 : Int32) (sv0 : Int32) (h0 : Hs_t) (H : Heap) (locs : List Loc) (ls : Array Slot), Rp_h G s0.heap h0 H → Lo_k s0 locs → lv_has ls 4 [(0, .ref t0), (1, .int x1), (3, .int x3)] → f_M_line_b108 r36 t0 x1 x3 sv0 h0 = some r → W p l e rm s m args below meth c H locs 0 0 (xq_MQ G s0 below r s rm.cells rm.slots) (F0 m 108 ls [.int sv0]) := by
  have hx := hc.x
  have hb := hc.b
  obtain ⟨hm1, hm2, hm3, hm4⟩ := id hrm
  intro t0 x1 x3 sv0 h0 H locs ls hR hLo hl heq
  unfold f_M_line_b108 at heq
  refine lv_istore_n (lv' := [(2, .int sv0), (0, .ref t0), (1, .int x1), (3, .int x3)]) hx hb d_M_line_108 rfl hl (by decide) rfl (fun ls hl => ?_)
  refine lv_aload_n hx hb d_M_line_109 rfl (lv_at hl 1 rfl) ?_
  refine lv_aload_n hx hb d_M_line_110 rfl (lv_at hl 1 rfl) ?_
  refine x_gI hc hR fl_M_120 heq d_M_line_111 (fun v9 heq => ?_)
  refine lv_if_ne (tgt := 123) hx hb d_M_line_114 rfl (fun hq => ?_) (fun hq => ?_)
  · rw [if_neg hq] at heq
    refine W.widen (k := 0) (n := 0) (by omega) (by omega) ?_
    exact k_M_line_b123 _ hc hrm hr36 t0 x1 sv0 t0 h0 H locs ls hR hLo (lv_sub hl [1, 2, 0] rfl) heq
  · rw [if_pos hq] at heq
    refine lv_iload_n hx hb d_M_line_117 rfl (lv_at hl 3 rfl) ?_
    refine lv_bipush (v := 13) hx hb d_M_line_118 (by decide) ?_
    refine lv_icmp_ne (tgt := 127) hx hb d_M_line_120 rfl (fun hq => ?_) (fun hq => ?_)
    · rw [if_neg hq] at heq
      refine lv_iconst (v := 0) hx hb d_M_line_127 (by decide) ?_
      refine W.widen (k := 0) (n := 0) (by omega) (by omega) ?_
      exact k_M_line_b128 _ hc hrm hr36 t0 x1 sv0 0 t0 h0 H locs ls hR hLo (lv_sub hl [1, 2, 0] rfl) heq
    · rw [if_pos hq] at heq
      refine W.widen (k := 0) (n := 0) (by omega) (by omega) ?_
      exact k_M_line_b123 _ hc hrm hr36 t0 x1 sv0 t0 h0 H locs ls hR hLo (lv_sub hl [1, 2, 0] rfl) heq
set_option maxRecDepth 100000 in
set_option maxHeartbeats 4000000 in
theorem k_M_line_b107 {p : Program} {l : Launch} {e : Env} {s : State} {m : MethodId} {args : Array Value} {below : List Frame} {meth : Method} {c : Code} {s0 : State} {A0 : Array Value} {G : Gx_t} {r : Outcome × Hs_t} {rm : Room} (r36 : Nat → Int32 → Int32 → Hs_t → Rs_t) (hc : Cx_t p s m meth c s0 A0 l G y_M_line b_M_line 4 (some .int) []) (hrm : rm_Ok 0 0 5 116 rm) (hr36 : ∀ (t0 : Nat) (x1 : Int32) (x2 : Int32) (h0 : Hs_t) (H : Heap) (locs : List Loc) (ls : Array Slot), Rp_h G s0.heap h0 H → Lo_k s0 locs → lv_has ls 4 [(0, .ref t0), (1, .int x1), (2, .int x2)] → r36 t0 x1 x2 h0 = some r → W p l e rm s m args below meth c H locs 0 0 (xq_MQ G s0 below r s rm.cells rm.slots) (F0 m 36 ls [])) : ∀ (t0 : Nat) (x1 : Int32) (x3 : Int32) (h0 : Hs_t) (H : Heap) (locs : List Loc) (ls : Array Slot), Rp_h G s0.heap h0 H → Lo_k s0 locs → lv_has ls 4 [(0, .ref t0), (1, .int x1), (3, .int x3)] → f_M_line_b107 r36 t0 x1 x3 h0 = some r → W p l e rm s m args below meth c H locs 0 0 (xq_MQ G s0 below r s rm.cells rm.slots) (F0 m 107 ls []) := by
  have hx := hc.x
  have hb := hc.b
  obtain ⟨hm1, hm2, hm3, hm4⟩ := id hrm
  intro t0 x1 x3 h0 H locs ls hR hLo hl heq
  unfold f_M_line_b107 at heq
  refine lv_iconst (v := 0) hx hb d_M_line_107 (by decide) ?_
  refine W.widen (k := 0) (n := 0) (by omega) (by omega) ?_
  exact k_M_line_b108 _ hc hrm hr36 t0 x1 x3 0 h0 H locs ls hR hLo (lv_sub hl [0, 1, 2] rfl) heq
set_option maxRecDepth 100000 in
set_option maxHeartbeats 4000000 in
theorem k_M_line_b94 {p : Program} {l : Launch} {e : Env} {s : State} {m : MethodId} {args : Array Value} {below : List Frame} {meth : Method} {c : Code} {s0 : State} {A0 : Array Value} {G : Gx_t} {r : Outcome × Hs_t} {rm : Room} (r36 : Nat → Int32 → Int32 → Hs_t → Rs_t) (hc : Cx_t p s m meth c s0 A0 l G y_M_line b_M_line 4 (some .int) []) (hrm : rm_Ok 0 0 5 116 rm) (hr36 : ∀ (t0 : Nat) (x1 : Int32) (x2 : Int32) (h0 : Hs_t) (H : Heap) (locs : List Loc) (ls : Array Slot), Rp_h G s0.heap h0 H → Lo_k s0 locs → lv_has ls 4 [(0, .ref t0), (1, .int x1), (2, .int x2)] → r36 t0 x1 x2 h0 = some r → W p l e rm s m args below meth c H locs 0 0 (xq_MQ G s0 below r s rm.cells rm.slots) (F0 m 36 ls [])) : ∀ (t0 : Nat) (x3 : Int32) (sv0 : Int32) (h0 : Hs_t) (H : Heap) (locs : List Loc) (ls : Array Slot), Rp_h G s0.heap h0 H → Lo_k s0 locs → lv_has ls 4 [(0, .ref t0), (3, .int x3)] → f_M_line_b94 r36 t0 x3 sv0 h0 = some r → W p l e rm s m args below meth c H locs 0 0 (xq_MQ G s0 below r s rm.cells rm.slots) (F0 m 94 ls [.int sv0]) := by
  have hx := hc.x
  have hb := hc.b
  obtain ⟨hm1, hm2, hm3, hm4⟩ := id hrm
  intro t0 x3 sv0 h0 H locs ls hR hLo hl heq
  unfold f_M_line_b94 at heq
  refine lv_istore_n (lv' := [(1, .int sv0), (0, .ref t0), (3, .int x3)]) hx hb d_M_line_94 rfl hl (by decide) rfl (fun ls hl => ?_)
  refine lv_iload_n hx hb d_M_line_95 rfl (lv_at hl 2 rfl) ?_
  refine lv_if_lt (tgt := 107) hx hb d_M_line_96 rfl (fun hq => ?_) (fun hq => ?_)
  · rw [if_pos hq] at heq
    refine W.widen (k := 0) (n := 0) (by omega) (by omega) ?_
    exact k_M_line_b107 _ hc hrm hr36 t0 sv0 x3 h0 H locs ls hR hLo (lv_sub hl [1, 0, 2] rfl) heq
  · rw [if_neg hq] at heq
    refine lv_iload_n hx hb d_M_line_99 rfl (lv_at hl 0 rfl) ?_
    refine lv_if_ne (tgt := 107) hx hb d_M_line_100 rfl (fun hq => ?_) (fun hq => ?_)
    · rw [if_neg hq] at heq
      refine W.widen (k := 0) (n := 0) (by omega) (by omega) ?_
      exact k_M_line_b107 _ hc hrm hr36 t0 sv0 x3 h0 H locs ls hR hLo (lv_sub hl [1, 0, 2] rfl) heq
    · rw [if_pos hq] at heq
      refine lv_iconst (v := 1) hx hb d_M_line_103 (by decide) ?_
      refine lv_goto (tgt := 108) hx hb d_M_line_104 rfl ?_
      refine W.widen (k := 0) (n := 0) (by omega) (by omega) ?_
      exact k_M_line_b108 _ hc hrm hr36 t0 sv0 x3 1 h0 H locs ls hR hLo (lv_sub hl [1, 0, 2] rfl) heq
set_option maxRecDepth 100000 in
set_option maxHeartbeats 4000000 in
theorem k_M_line_b93 {p : Program} {l : Launch} {e : Env} {s : State} {m : MethodId} {args : Array Value} {below : List Frame} {meth : Method} {c : Code} {s0 : State} {A0 : Array Value} {G : Gx_t} {r : Outcome × Hs_t} {rm : Room} (r36 : Nat → Int32 → Int32 → Hs_t → Rs_t) (hc : Cx_t p s m meth c s0 A0 l G y_M_line b_M_line 4 (some .int) []) (hrm : rm_Ok 0 0 5 116 rm) (hr36 : ∀ (t0 : Nat) (x1 : Int32) (x2 : Int32) (h0 : Hs_t) (H : Heap) (locs : List Loc) (ls : Array Slot), Rp_h G s0.heap h0 H → Lo_k s0 locs → lv_has ls 4 [(0, .ref t0), (1, .int x1), (2, .int x2)] → r36 t0 x1 x2 h0 = some r → W p l e rm s m args below meth c H locs 0 0 (xq_MQ G s0 below r s rm.cells rm.slots) (F0 m 36 ls [])) : ∀ (t0 : Nat) (x3 : Int32) (h0 : Hs_t) (H : Heap) (locs : List Loc) (ls : Array Slot), Rp_h G s0.heap h0 H → Lo_k s0 locs → lv_has ls 4 [(0, .ref t0), (3, .int x3)] → f_M_line_b93 r36 t0 x3 h0 = some r → W p l e rm s m args below meth c H locs 0 0 (xq_MQ G s0 below r s rm.cells rm.slots) (F0 m 93 ls []) := by
  have hx := hc.x
  have hb := hc.b
  obtain ⟨hm1, hm2, hm3, hm4⟩ := id hrm
  intro t0 x3 h0 H locs ls hR hLo hl heq
  unfold f_M_line_b93 at heq
  refine lv_iconst (v := 0) hx hb d_M_line_93 (by decide) ?_
  refine W.widen (k := 0) (n := 0) (by omega) (by omega) ?_
  exact k_M_line_b94 _ hc hrm hr36 t0 x3 0 h0 H locs ls hR hLo (lv_sub hl [0, 1] rfl) heq
set_option maxRecDepth 100000 in
set_option maxHeartbeats 4000000 in
theorem k_M_line_b72 {p : Program} {l : Launch} {e : Env} {s : State} {m : MethodId} {args : Array Value} {below : List Frame} {meth : Method} {c : Code} {s0 : State} {A0 : Array Value} {G : Gx_t} {r : Outcome × Hs_t} {rm : Room} (r36 : Nat → Int32 → Int32 → Hs_t → Rs_t) (hc : Cx_t p s m meth c s0 A0 l G y_M_line b_M_line 4 (some .int) []) (hrm : rm_Ok 0 0 5 116 rm) (hr36 : ∀ (t0 : Nat) (x1 : Int32) (x2 : Int32) (h0 : Hs_t) (H : Heap) (locs : List Loc) (ls : Array Slot), Rp_h G s0.heap h0 H → Lo_k s0 locs → lv_has ls 4 [(0, .ref t0), (1, .int x1), (2, .int x2)] → r36 t0 x1 x2 h0 = some r → W p l e rm s m args below meth c H locs 0 0 (xq_MQ G s0 below r s rm.cells rm.slots) (F0 m 36 ls [])) : ∀ (t0 : Nat) (sv0 : Int32) (h0 : Hs_t) (H : Heap) (locs : List Loc) (ls : Array Slot), Rp_h G s0.heap h0 H → Lo_k s0 locs → lv_has ls 4 [(0, .ref t0)] → f_M_line_b72 r36 t0 sv0 h0 = some r → W p l e rm s m args below meth c H locs 0 0 (xq_MQ G s0 below r s rm.cells rm.slots) (F0 m 72 ls [.int sv0]) := by
  have hx := hc.x
  have hb := hc.b
  obtain ⟨hm1, hm2, hm3, hm4⟩ := id hrm
  intro t0 sv0 h0 H locs ls hR hLo hl heq
  unfold f_M_line_b72 at heq
  refine lv_istore_n (lv' := [(3, .int sv0), (0, .ref t0)]) hx hb d_M_line_72 rfl hl (by decide) rfl (fun ls hl => ?_)
  refine lv_iload_n hx hb d_M_line_73 rfl (lv_at hl 0 rfl) ?_
  refine lv_if_lt (tgt := 93) hx hb d_M_line_74 rfl (fun hq => ?_) (fun hq => ?_)
  · rw [if_pos hq] at heq
    refine W.widen (k := 0) (n := 0) (by omega) (by omega) ?_
    exact k_M_line_b93 _ hc hrm hr36 t0 sv0 h0 H locs ls hR hLo (lv_sub hl [1, 0] rfl) heq
  · rw [if_neg hq] at heq
    refine lv_iload_n hx hb d_M_line_77 rfl (lv_at hl 0 rfl) ?_
    refine lv_bipush (v := 10) hx hb d_M_line_78 (by decide) ?_
    refine lv_icmp_eq (tgt := 93) hx hb d_M_line_80 rfl (fun hq => ?_) (fun hq => ?_)
    · rw [if_pos hq] at heq
      refine W.widen (k := 0) (n := 0) (by omega) (by omega) ?_
      exact k_M_line_b93 _ hc hrm hr36 t0 sv0 h0 H locs ls hR hLo (lv_sub hl [1, 0] rfl) heq
    · rw [if_neg hq] at heq
      refine lv_iload_n hx hb d_M_line_83 rfl (lv_at hl 0 rfl) ?_
      refine lv_bipush (v := 13) hx hb d_M_line_84 (by decide) ?_
      refine lv_icmp_eq (tgt := 93) hx hb d_M_line_86 rfl (fun hq => ?_) (fun hq => ?_)
      · rw [if_pos hq] at heq
        refine W.widen (k := 0) (n := 0) (by omega) (by omega) ?_
        exact k_M_line_b93 _ hc hrm hr36 t0 sv0 h0 H locs ls hR hLo (lv_sub hl [1, 0] rfl) heq
      · rw [if_neg hq] at heq
        refine lv_iconst (v := 1) hx hb d_M_line_89 (by decide) ?_
        refine lv_goto (tgt := 94) hx hb d_M_line_90 rfl ?_
        refine W.widen (k := 0) (n := 0) (by omega) (by omega) ?_
        exact k_M_line_b94 _ hc hrm hr36 t0 sv0 1 h0 H locs ls hR hLo (lv_sub hl [1, 0] rfl) heq
set_option maxRecDepth 100000 in
set_option maxHeartbeats 4000000 in
theorem k_M_line_b36 {p : Program} {l : Launch} {e : Env} {s : State} {m : MethodId} {args : Array Value} {below : List Frame} {meth : Method} {c : Code} {s0 : State} {A0 : Array Value} {G : Gx_t} {r : Outcome × Hs_t} {rm : Room} (hc : Cx_t p s m meth c s0 A0 l G y_M_line b_M_line 4 (some .int) []) (hrm : rm_Ok 0 0 5 116 rm) : ∀ (n : Nat) (t0 : Nat) (x1 : Int32) (x2 : Int32) (h0 : Hs_t) (H : Heap) (locs : List Loc) (ls : Array Slot), Rp_h G s0.heap h0 H → Lo_k s0 locs → lv_has ls 4 [(0, .ref t0), (1, .int x1), (2, .int x2)] → f_M_line_b36 n t0 x1 x2 h0 = some r → W p l e rm s m args below meth c H locs 0 0 (xq_MQ G s0 below r s rm.cells rm.slots) (F0 m 36 ls []) := by
  have hx := hc.x
  have hb := hc.b
  obtain ⟨hm1, hm2, hm3, hm4⟩ := id hrm
  intro n
  induction n with
  | zero =>
    intro t0 x1 x2 h0 H locs ls hR hLo hl heq
    unfold f_M_line_b36 at heq
    cases heq
  | succ n hr36 =>
    intro t0 x1 x2 h0 H locs ls hR hLo hl heq
    unfold f_M_line_b36 at heq
    refine lv_iload_n hx hb d_M_line_36 rfl (lv_at hl 1 rfl) ?_
    refine lv_if_eq (tgt := 142) hx hb d_M_line_37 rfl (fun hq => ?_) (fun hq => ?_)
    · rw [if_pos hq] at heq
      refine lv_aload_n hx hb d_M_line_142 rfl (lv_at hl 0 rfl) ?_
      refine x_gI hc hR fl_M_65 heq d_M_line_143 (fun v3 heq => ?_)
      refine lv_if_le (tgt := 153) hx hb d_M_line_146 rfl (fun hq => ?_) (fun hq => ?_)
      · rw [if_pos hq] at heq
        refine lv_iload_n hx hb d_M_line_153 rfl (lv_at hl 2 rfl) ?_
        refine lv_if_ne (tgt := 164) hx hb d_M_line_154 rfl (fun hq => ?_) (fun hq => ?_)
        · rw [if_neg hq] at heq
          refine W.widen (k := 0) (n := 0) (by omega) (by omega) ?_
          exact k_M_line_b164 hc hrm t0 h0 H locs ls hR hLo (lv_sub hl [0] rfl) heq
        · rw [if_pos hq] at heq
          refine lv_aload_n hx hb d_M_line_157 rfl (lv_at hl 0 rfl) ?_
          refine x_gI hc hR fl_M_123 heq d_M_line_158 (fun v4 heq => ?_)
          refine lv_if_le (tgt := 171) hx hb d_M_line_161 rfl (fun hq => ?_) (fun hq => ?_)
          · rw [if_pos hq] at heq
            refine lv_iconst (v := (-1)) hx hb d_M_line_171 (by decide) ?_
            refine W.widen (k := 0) (n := 0) (by omega) (by omega) ?_
            exact k_M_line_b172 hc hrm (-1) h0 H locs ls hR hLo (lv_sub hl [] rfl) heq
          · rw [if_neg hq] at heq
            refine W.widen (k := 0) (n := 0) (by omega) (by omega) ?_
            exact k_M_line_b164 hc hrm t0 h0 H locs ls hR hLo (lv_sub hl [0] rfl) heq
      · rw [if_neg hq] at heq
        refine lv_iconst (v := 0) hx hb d_M_line_149 (by decide) ?_
        refine lv_goto (tgt := 172) hx hb d_M_line_150 rfl ?_
        refine W.widen (k := 0) (n := 0) (by omega) (by omega) ?_
        exact k_M_line_b172 hc hrm 0 h0 H locs ls hR hLo (lv_sub hl [] rfl) heq
    · rw [if_neg hq] at heq
      refine lv_aload_n hx hb d_M_line_40 rfl (lv_at hl 0 rfl) ?_
      refine lv_iconst (v := 1) hx hb d_M_line_41 (by decide) ?_
      refine x_ck heq (fun tt fs ha ht heq => ?_)
      obtain rfl : tt = 8 := by simpa using ht
      refine x_bI (mc := 0) (ms := 0) (st := []) hc hLo heq ⟨by omega, by omega⟩ (fun r9 h9 => x_runV hc (c_M_reads hc.g rm_M_reads rk_M_reads _ _ _ _ h9) md_M_reads hR ha rfl wd_821 wd_823 sp_11 hl.1 ml_M_reads rfl (Nat.le_of_ble_eq_true rfl) d_M_line_42 ⟨by show 4 + 1 ≤ _; omega, by show 8 + (3 + 11) + (94) ≤ _; omega⟩ ⟨by show 0 + 0 ≤ _; omega, by show 0 + 0 ≤ _; omega⟩) (fun v5 h3 H locs hR hLo heq => ?_)
      refine lv_if_ne (tgt := 55) hx hb d_M_line_45 rfl (fun hq => ?_) (fun hq => ?_)
      · rw [if_neg hq] at heq
        refine lv_aload_n hx hb d_M_line_55 rfl (lv_at hl 0 rfl) ?_
        refine x_gI hc hR fl_M_86 heq d_M_line_56 (fun v6 heq => ?_)
        refine lv_if_ne (tgt := 66) hx hb d_M_line_59 rfl (fun hq => ?_) (fun hq => ?_)
        · rw [if_neg hq] at heq
          refine lv_aload_n hx hb d_M_line_66 rfl (lv_at hl 0 rfl) ?_
          refine x_gA hc hR fl_M_56 heq d_M_line_67 (fun v7 heq => ?_)
          refine lv_iconst (v := 0) hx hb d_M_line_70 (by decide) ?_
          refine x_aI hc hR heq d_M_line_71 (fun v8 heq => ?_)
          refine W.widen (k := 0) (n := 0) (by omega) (by omega) ?_
          exact k_M_line_b72 _ hc hrm hr36 t0 v8 h3 H locs ls hR hLo (lv_sub hl [0] rfl) heq
        · rw [if_pos hq] at heq
          refine lv_iconst (v := (-1)) hx hb d_M_line_62 (by decide) ?_
          refine lv_goto (tgt := 72) hx hb d_M_line_63 rfl ?_
          refine W.widen (k := 0) (n := 0) (by omega) (by omega) ?_
          exact k_M_line_b72 _ hc hrm hr36 t0 (-1) h3 H locs ls hR hLo (lv_sub hl [0] rfl) heq
      · rw [if_pos hq] at heq
        refine lv_aload_n hx hb d_M_line_48 rfl (lv_at hl 0 rfl) ?_
        refine lv_iconst (v := 1) hx hb d_M_line_49 (by decide) ?_
        refine x_pV hc hR hLo fl_M_65 (Or.inl rfl) rfl rfl heq d_M_line_50 (fun h4 H locs hR hLo heq => ?_)
        refine lv_iconst (v := 0) hx hb d_M_line_53 (by decide) ?_
        exact x_iret hc hR hLo ⟨by omega, by omega⟩ heq d_M_line_54
set_option maxRecDepth 100000 in
set_option maxHeartbeats 4000000 in
theorem k_M_line_b33 {p : Program} {l : Launch} {e : Env} {s : State} {m : MethodId} {args : Array Value} {below : List Frame} {meth : Method} {c : Code} {s0 : State} {A0 : Array Value} {G : Gx_t} {r : Outcome × Hs_t} {rm : Room} (hc : Cx_t p s m meth c s0 A0 l G y_M_line b_M_line 4 (some .int) []) (hrm : rm_Ok 0 0 5 116 rm) : ∀ (t0 : Nat) (sv0 : Int32) (h0 : Hs_t) (H : Heap) (locs : List Loc) (ls : Array Slot), Rp_h G s0.heap h0 H → Lo_k s0 locs → lv_has ls 4 [(0, .ref t0)] → f_M_line_b33 t0 sv0 h0 = some r → W p l e rm s m args below meth c H locs 0 0 (xq_MQ G s0 below r s rm.cells rm.slots) (F0 m 33 ls [.int sv0]) := by
  have hx := hc.x
  have hb := hc.b
  obtain ⟨hm1, hm2, hm3, hm4⟩ := id hrm
  intro t0 sv0 h0 H locs ls hR hLo hl heq
  unfold f_M_line_b33 at heq
  refine lv_istore_n (lv' := [(1, .int sv0), (0, .ref t0)]) hx hb d_M_line_33 rfl hl (by decide) rfl (fun ls hl => ?_)
  refine lv_iconst (v := 0) hx hb d_M_line_34 (by decide) ?_
  refine lv_istore_n (lv' := [(2, .int 0), (1, .int sv0), (0, .ref t0)]) hx hb d_M_line_35 rfl hl (by decide) rfl (fun ls hl => ?_)
  refine W.widen (k := 0) (n := 0) (by omega) (by omega) ?_
  exact k_M_line_b36 hc hrm fu_N t0 sv0 0 h0 H locs ls hR hLo (lv_sub hl [2, 1, 0] rfl) heq
set_option maxRecDepth 100000 in
set_option maxHeartbeats 4000000 in
theorem k_M_line_b18 {p : Program} {l : Launch} {e : Env} {s : State} {m : MethodId} {args : Array Value} {below : List Frame} {meth : Method} {c : Code} {s0 : State} {A0 : Array Value} {G : Gx_t} {r : Outcome × Hs_t} {rm : Room} (hc : Cx_t p s m meth c s0 A0 l G y_M_line b_M_line 4 (some .int) []) (hrm : rm_Ok 0 0 5 116 rm) : ∀ (t0 : Nat) (sv0 : Int32) (sv1 : Nat) (h0 : Hs_t) (H : Heap) (locs : List Loc) (ls : Array Slot), Rp_h G s0.heap h0 H → Lo_k s0 locs → lv_has ls 4 [(0, .ref t0)] → f_M_line_b18 t0 sv0 sv1 h0 = some r → W p l e rm s m args below meth c H locs 0 0 (xq_MQ G s0 below r s rm.cells rm.slots) (F0 m 18 ls [.int sv0, .ref sv1]) := by
  have hx := hc.x
  have hb := hc.b
  obtain ⟨hm1, hm2, hm3, hm4⟩ := id hrm
  intro t0 sv0 sv1 h0 H locs ls hR hLo hl heq
  unfold f_M_line_b18 at heq
  refine x_pV hc hR hLo fl_M_65 (Or.inl rfl) rfl rfl heq d_M_line_18 (fun h2 H locs hR hLo heq => ?_)
  refine lv_aload_n hx hb d_M_line_21 rfl (lv_at hl 0 rfl) ?_
  refine x_gI hc hR fl_M_65 heq d_M_line_22 (fun v2 heq => ?_)
  refine lv_if_ne (tgt := 32) hx hb d_M_line_25 rfl (fun hq => ?_) (fun hq => ?_)
  · rw [if_neg hq] at heq
    refine lv_iconst (v := 0) hx hb d_M_line_32 (by decide) ?_
    refine W.widen (k := 0) (n := 0) (by omega) (by omega) ?_
    exact k_M_line_b33 hc hrm t0 0 h2 H locs ls hR hLo (lv_sub hl [0] rfl) heq
  · rw [if_pos hq] at heq
    refine lv_iconst (v := 1) hx hb d_M_line_28 (by decide) ?_
    refine lv_goto (tgt := 33) hx hb d_M_line_29 rfl ?_
    refine W.widen (k := 0) (n := 0) (by omega) (by omega) ?_
    exact k_M_line_b33 hc hrm t0 1 h2 H locs ls hR hLo (lv_sub hl [0] rfl) heq
set_option maxRecDepth 100000 in
set_option maxHeartbeats 4000000 in
theorem c_M_line {l : Launch} {s0 : State} {A0 : Array Value} {G : Gx_t} (hG : G_0 l s0 A0 G) (rm : Room) (hrm : rm_Ok 0 0 5 116 rm) (t0 : Nat) (h0 : Hs_t) (r : Outcome × Hs_t) (heq : f_M_line t0 h0 = some r) : M_X G s0 l y_M_line (.code y_M_line b_M_line 4 (some .int)) rm [.ref t0] h0 r := by
  refine M_X.of (by decide) hG (fun p e s m below meth c H hc hR => ?_)
  have hx := hc.x
  have hb := hc.b
  obtain ⟨hm1, hm2, hm3, hm4⟩ := id hrm
  have hLo : Lo_k s0 [] := fun _ hq => absurd hq List.not_mem_nil
  have hl := lv_entry ([.ref t0]) (n := 4) (Nat.le_of_ble_eq_true rfl)
  rw [lg_entry_eq]
  generalize (lg_sl ([.ref t0]) ++ List.replicate (4 - (lg_sl ([.ref t0])).length) Slot.unset).toArray = ls at hl ⊢
  have hl : lv_has ls 4 [(0, .ref t0)] := hl
  generalize hle : ([] : List Loc) = locs at hLo ⊢
  unfold f_M_line at heq
  refine lv_aload_n hx hb d_M_line_0 rfl (lv_at hl 0 rfl) ?_
  refine lv_iconst (v := 0) hx hb d_M_line_1 (by decide) ?_
  refine x_pV hc hR hLo fl_M_123 (Or.inl rfl) rfl rfl heq d_M_line_2 (fun h1 H locs hR hLo heq => ?_)
  refine lv_aload_n hx hb d_M_line_5 rfl (lv_at hl 0 rfl) ?_
  refine lv_aload_n hx hb d_M_line_6 rfl (lv_at hl 0 rfl) ?_
  refine x_gI hc hR fl_M_75 heq d_M_line_7 (fun v1 heq => ?_)
  refine lv_if_eq (tgt := 17) hx hb d_M_line_10 rfl (fun hq => ?_) (fun hq => ?_)
  · rw [if_pos hq] at heq
    refine lv_iconst (v := 0) hx hb d_M_line_17 (by decide) ?_
    refine W.widen (k := 0) (n := 0) (by omega) (by omega) ?_
    exact k_M_line_b18 hc hrm t0 0 t0 h1 H locs ls hR hLo (lv_sub hl [0] rfl) heq
  · rw [if_neg hq] at heq
    refine lv_iconst (v := 1) hx hb d_M_line_13 (by decide) ?_
    refine lv_goto (tgt := 18) hx hb d_M_line_14 rfl ?_
    refine W.widen (k := 0) (n := 0) (by omega) (by omega) ?_
    exact k_M_line_b18 hc hrm t0 1 t0 h1 H locs ls hR hLo (lv_sub hl [0] rfl) heq
def rm_M_line : Room := { frames := 5, cells := 0, slots := 0, locals := 116 }
theorem rk_M_line : rm_Ok 0 0 5 116 rm_M_line := ⟨Nat.le_refl _, Nat.le_refl _, Nat.le_refl _, Nat.le_refl _⟩
def f_M_bufferBelow_b46 (sv0 : Int32) (h0 : Hs_t) : Rs_t := re_I sv0 h0
def f_M_bufferBelow_b45 (h0 : Hs_t) : Rs_t := f_M_bufferBelow_b46 (-1) h0
def f_M_bufferBelow_b27 (t0 : Nat) (x1 : Int32) (h0 : Hs_t) : Rs_t := if x1 < 0 then (f_M_bufferBelow_b45 h0) else ((fd_A [8] 7 h0 t0).bind fun v4 => (ar_I h0 v4 x1).bind fun v5 => if v5 = 1 then (f_M_bufferBelow_b46 x1 h0) else (f_M_bufferBelow_b45 h0))
def f_M_bufferBelow_b7 : Nat → Nat → Int32 → Hs_t → Rs_t
  | 0, _, _, _ => none
  | n + 1, t0, x1, h0 => if x1 < 0 then (f_M_bufferBelow_b27 t0 x1 h0) else ((fd_A [8] 7 h0 t0).bind fun v2 => (ar_I h0 v2 x1).bind fun v3 => if v3 ≤ 2 then (f_M_bufferBelow_b27 t0 x1 h0) else ((f_M_bufferBelow_b7 n) t0 (x1 + (-1)) h0))
def f_M_bufferBelow (t0 : Nat) (h0 : Hs_t) : Rs_t := (fd_I [8] 6 h0 t0).bind fun v1 => f_M_bufferBelow_b7 fu_N t0 (v1 - 1) h0
set_option maxRecDepth 100000 in
set_option maxHeartbeats 4000000 in
theorem k_M_bufferBelow_b46 {p : Program} {l : Launch} {e : Env} {s : State} {m : MethodId} {args : Array Value} {below : List Frame} {meth : Method} {c : Code} {s0 : State} {A0 : Array Value} {G : Gx_t} {r : Outcome × Hs_t} {rm : Room} (hc : Cx_t p s m meth c s0 A0 l G y_M_bufferBelow b_M_bufferBelow 2 (some .int) []) (hrm : rm_Ok 0 0 0 0 rm) : ∀ (sv0 : Int32) (h0 : Hs_t) (H : Heap) (locs : List Loc) (ls : Array Slot), Rp_h G s0.heap h0 H → Lo_k s0 locs → lv_has ls 2 [] → f_M_bufferBelow_b46 sv0 h0 = some r → W p l e rm s m args below meth c H locs 0 0 (xq_MQ G s0 below r s rm.cells rm.slots) (F0 m 46 ls [.int sv0]) := by
  have hx := hc.x
  have hb := hc.b
  obtain ⟨hm1, hm2, hm3, hm4⟩ := id hrm
  intro sv0 h0 H locs ls hR hLo hl heq
  unfold f_M_bufferBelow_b46 at heq
  exact x_iret hc hR hLo ⟨by omega, by omega⟩ heq d_M_bufferBelow_46
set_option maxRecDepth 100000 in
set_option maxHeartbeats 4000000 in
theorem k_M_bufferBelow_b45 {p : Program} {l : Launch} {e : Env} {s : State} {m : MethodId} {args : Array Value} {below : List Frame} {meth : Method} {c : Code} {s0 : State} {A0 : Array Value} {G : Gx_t} {r : Outcome × Hs_t} {rm : Room} (hc : Cx_t p s m meth c s0 A0 l G y_M_bufferBelow b_M_bufferBelow 2 (some .int) []) (hrm : rm_Ok 0 0 0 0 rm) : ∀  (h0 : Hs_t) (H : Heap) (locs : List Loc) (ls : Array Slot), Rp_h G s0.heap h0 H → Lo_k s0 locs → lv_has ls 2 [] → f_M_bufferBelow_b45  h0 = some r → W p l e rm s m args below meth c H locs 0 0 (xq_MQ G s0 below r s rm.cells rm.slots) (F0 m 45 ls []) := by
  have hx := hc.x
  have hb := hc.b
  obtain ⟨hm1, hm2, hm3, hm4⟩ := id hrm
  intro  h0 H locs ls hR hLo hl heq
  unfold f_M_bufferBelow_b45 at heq
  refine lv_iconst (v := (-1)) hx hb d_M_bufferBelow_45 (by decide) ?_
  refine W.widen (k := 0) (n := 0) (by omega) (by omega) ?_
  exact k_M_bufferBelow_b46 hc hrm (-1) h0 H locs ls hR hLo (lv_sub hl [] rfl) heq
set_option maxRecDepth 100000 in
set_option maxHeartbeats 4000000 in
theorem k_M_bufferBelow_b27 {p : Program} {l : Launch} {e : Env} {s : State} {m : MethodId} {args : Array Value} {below : List Frame} {meth : Method} {c : Code} {s0 : State} {A0 : Array Value} {G : Gx_t} {r : Outcome × Hs_t} {rm : Room} (hc : Cx_t p s m meth c s0 A0 l G y_M_bufferBelow b_M_bufferBelow 2 (some .int) []) (hrm : rm_Ok 0 0 0 0 rm) : ∀ (t0 : Nat) (x1 : Int32) (h0 : Hs_t) (H : Heap) (locs : List Loc) (ls : Array Slot), Rp_h G s0.heap h0 H → Lo_k s0 locs → lv_has ls 2 [(0, .ref t0), (1, .int x1)] → f_M_bufferBelow_b27 t0 x1 h0 = some r → W p l e rm s m args below meth c H locs 0 0 (xq_MQ G s0 below r s rm.cells rm.slots) (F0 m 27 ls []) := by
  have hx := hc.x
  have hb := hc.b
  obtain ⟨hm1, hm2, hm3, hm4⟩ := id hrm
  intro t0 x1 h0 H locs ls hR hLo hl heq
  unfold f_M_bufferBelow_b27 at heq
  refine lv_iload_n hx hb d_M_bufferBelow_27 rfl (lv_at hl 1 rfl) ?_
  refine lv_if_lt (tgt := 45) hx hb d_M_bufferBelow_28 rfl (fun hq => ?_) (fun hq => ?_)
  · rw [if_pos hq] at heq
    refine W.widen (k := 0) (n := 0) (by omega) (by omega) ?_
    exact k_M_bufferBelow_b45 hc hrm h0 H locs ls hR hLo (lv_sub hl [] rfl) heq
  · rw [if_neg hq] at heq
    refine lv_aload_n hx hb d_M_bufferBelow_31 rfl (lv_at hl 0 rfl) ?_
    refine x_gA hc hR fl_M_20 heq d_M_bufferBelow_32 (fun v4 heq => ?_)
    refine lv_iload_n hx hb d_M_bufferBelow_35 rfl (lv_at hl 1 rfl) ?_
    refine x_aI hc hR heq d_M_bufferBelow_36 (fun v5 heq => ?_)
    refine lv_iconst (v := 1) hx hb d_M_bufferBelow_37 (by decide) ?_
    refine lv_icmp_ne (tgt := 45) hx hb d_M_bufferBelow_38 rfl (fun hq => ?_) (fun hq => ?_)
    · rw [if_neg hq] at heq
      refine W.widen (k := 0) (n := 0) (by omega) (by omega) ?_
      exact k_M_bufferBelow_b45 hc hrm h0 H locs ls hR hLo (lv_sub hl [] rfl) heq
    · rw [if_pos hq] at heq
      refine lv_iload_n hx hb d_M_bufferBelow_41 rfl (lv_at hl 1 rfl) ?_
      refine lv_goto (tgt := 46) hx hb d_M_bufferBelow_42 rfl ?_
      refine W.widen (k := 0) (n := 0) (by omega) (by omega) ?_
      exact k_M_bufferBelow_b46 hc hrm x1 h0 H locs ls hR hLo (lv_sub hl [] rfl) heq
set_option maxRecDepth 100000 in
set_option maxHeartbeats 4000000 in
theorem k_M_bufferBelow_b7 {p : Program} {l : Launch} {e : Env} {s : State} {m : MethodId} {args : Array Value} {below : List Frame} {meth : Method} {c : Code} {s0 : State} {A0 : Array Value} {G : Gx_t} {r : Outcome × Hs_t} {rm : Room} (hc : Cx_t p s m meth c s0 A0 l G y_M_bufferBelow b_M_bufferBelow 2 (some .int) []) (hrm : rm_Ok 0 0 0 0 rm) : ∀ (n : Nat) (t0 : Nat) (x1 : Int32) (h0 : Hs_t) (H : Heap) (locs : List Loc) (ls : Array Slot), Rp_h G s0.heap h0 H → Lo_k s0 locs → lv_has ls 2 [(0, .ref t0), (1, .int x1)] → f_M_bufferBelow_b7 n t0 x1 h0 = some r → W p l e rm s m args below meth c H locs 0 0 (xq_MQ G s0 below r s rm.cells rm.slots) (F0 m 7 ls []) := by
  have hx := hc.x
  have hb := hc.b
  obtain ⟨hm1, hm2, hm3, hm4⟩ := id hrm
  intro n
  induction n with
  | zero =>
    intro t0 x1 h0 H locs ls hR hLo hl heq
    unfold f_M_bufferBelow_b7 at heq
    cases heq
  | succ n hr7 =>
    intro t0 x1 h0 H locs ls hR hLo hl heq
    unfold f_M_bufferBelow_b7 at heq
    refine lv_iload_n hx hb d_M_bufferBelow_7 rfl (lv_at hl 1 rfl) ?_
    refine lv_if_lt (tgt := 27) hx hb d_M_bufferBelow_8 rfl (fun hq => ?_) (fun hq => ?_)
    · rw [if_pos hq] at heq
      refine W.widen (k := 0) (n := 0) (by omega) (by omega) ?_
      exact k_M_bufferBelow_b27 hc hrm t0 x1 h0 H locs ls hR hLo (lv_sub hl [0, 1] rfl) heq
    · rw [if_neg hq] at heq
      refine lv_aload_n hx hb d_M_bufferBelow_11 rfl (lv_at hl 0 rfl) ?_
      refine x_gA hc hR fl_M_20 heq d_M_bufferBelow_12 (fun v2 heq => ?_)
      refine lv_iload_n hx hb d_M_bufferBelow_15 rfl (lv_at hl 1 rfl) ?_
      refine x_aI hc hR heq d_M_bufferBelow_16 (fun v3 heq => ?_)
      refine lv_iconst (v := 2) hx hb d_M_bufferBelow_17 (by decide) ?_
      refine lv_icmp_le (tgt := 27) hx hb d_M_bufferBelow_18 rfl (fun hq => ?_) (fun hq => ?_)
      · rw [if_pos hq] at heq
        refine W.widen (k := 0) (n := 0) (by omega) (by omega) ?_
        exact k_M_bufferBelow_b27 hc hrm t0 x1 h0 H locs ls hR hLo (lv_sub hl [0, 1] rfl) heq
      · rw [if_neg hq] at heq
        refine lv_iinc (k := 1) (v := (x1 + (-1))) (lv' := [(1, .int (x1 + (-1))), (0, .ref t0)]) hx hb d_M_bufferBelow_21 hl rfl rfl (by decide) rfl (fun ls hl => ?_)
        refine lv_goto (tgt := 7) hx hb d_M_bufferBelow_24 rfl ?_
        refine W.widen (k := 0) (n := 0) (by omega) (by omega) ?_
        exact hr7 t0 (x1 + (-1)) h0 H locs ls hR hLo (lv_sub hl [1, 0] rfl) heq
set_option maxRecDepth 100000 in
set_option maxHeartbeats 4000000 in
theorem c_M_bufferBelow {l : Launch} {s0 : State} {A0 : Array Value} {G : Gx_t} (hG : G_0 l s0 A0 G) (rm : Room) (hrm : rm_Ok 0 0 0 0 rm) (t0 : Nat) (h0 : Hs_t) (r : Outcome × Hs_t) (heq : f_M_bufferBelow t0 h0 = some r) : M_X G s0 l y_M_bufferBelow (.code y_M_bufferBelow b_M_bufferBelow 2 (some .int)) rm [.ref t0] h0 r := by
  refine M_X.of (by decide) hG (fun p e s m below meth c H hc hR => ?_)
  have hx := hc.x
  have hb := hc.b
  obtain ⟨hm1, hm2, hm3, hm4⟩ := id hrm
  have hLo : Lo_k s0 [] := fun _ hq => absurd hq List.not_mem_nil
  have hl := lv_entry ([.ref t0]) (n := 2) (Nat.le_of_ble_eq_true rfl)
  rw [lg_entry_eq]
  generalize (lg_sl ([.ref t0]) ++ List.replicate (2 - (lg_sl ([.ref t0])).length) Slot.unset).toArray = ls at hl ⊢
  have hl : lv_has ls 2 [(0, .ref t0)] := hl
  generalize hle : ([] : List Loc) = locs at hLo ⊢
  unfold f_M_bufferBelow at heq
  refine lv_aload_n hx hb d_M_bufferBelow_0 rfl (lv_at hl 0 rfl) ?_
  refine x_gI hc hR fl_M_79 heq d_M_bufferBelow_1 (fun v1 heq => ?_)
  refine lv_iconst (v := 1) hx hb d_M_bufferBelow_4 (by decide) ?_
  refine lv_isub hx hb d_M_bufferBelow_5 ?_
  refine lv_istore_n (lv' := [(1, .int (v1 - 1)), (0, .ref t0)]) hx hb d_M_bufferBelow_6 rfl hl (by decide) rfl (fun ls hl => ?_)
  refine W.widen (k := 0) (n := 0) (by omega) (by omega) ?_
  exact k_M_bufferBelow_b7 hc hrm fu_N t0 (v1 - 1) h0 H locs ls hR hLo (lv_sub hl [1, 0] rfl) heq
def rm_M_bufferBelow : Room := { frames := 0, cells := 0, slots := 0, locals := 0 }
theorem rk_M_bufferBelow : rm_Ok 0 0 0 0 rm_M_bufferBelow := ⟨Nat.le_refl _, Nat.le_refl _, Nat.le_refl _, Nat.le_refl _⟩
def f_M_mark_b87 : Nat → Nat → Int32 → Hs_t → Rs_t
  | 0, _, _, _ => none
  | n + 1, t0, x3, h0 => (fd_I [8] 6 h0 t0).bind fun v9 => if v9 ≤ x3 then ((fd_I [8] 22 h0 t0).bind fun v10 => (pt_Z [8] 23 h0 t0 v10).bind fun h7 => re_V h7) else ((fd_A [8] 10 h0 t0).bind fun v11 => (fd_A [8] 9 h0 t0).bind fun v12 => (ar_I h0 v12 x3).bind fun v13 => (as_I h0 v11 x3 v13).bind fun h8 => (fd_A [8] 12 h8 t0).bind fun v14 => (fd_A [8] 11 h8 t0).bind fun v15 => (ar_Z h8 v15 x3).bind fun v16 => (as_Z h8 v14 x3 v16).bind fun h9 => (f_M_mark_b87 n) t0 (x3 + 1) h9)
def f_M_mark_b40 (t0 : Nat) (x1 : Int32) (x2 : Int32) (sv0 : Int32) (sv1 : Nat) (h0 : Hs_t) : Rs_t := (pt_V [8] 0 h0 sv1 (.int sv0)).bind fun h2 => (fd_I [8] 0 h2 t0).bind fun v3 => if v3 ≤ 0 then ((fd_A [8] 15 h2 t0).bind fun v4 => (ar_I h2 v4 x2).bind fun v5 => (ck_T [8] h2 t0).bind fun _ => bd_V (f_M_forget t0 x2 v5 h2) (fun h3 => (fd_A [8] 15 h3 t0).bind fun v6 => (as_I h3 v6 x2 0).bind fun h4 => (fd_A [8] 16 h4 t0).bind fun v7 => (as_Z h4 v7 x2 1).bind fun h5 => (fd_A [8] 17 h5 t0).bind fun v8 => (as_I h5 v8 x2 x1).bind fun h6 => f_M_mark_b87 fu_N t0 (x2 + 1) h6)) else (re_V h2)
def f_M_mark_b27 (t0 : Nat) (x1 : Int32) (x2 : Int32) (sv0 : Nat) (h0 : Hs_t) : Rs_t := f_M_mark_b40 t0 x1 x2 2 sv0 h0
def f_M_mark (t0 : Nat) (x1 : Int32) (h0 : Hs_t) : Rs_t := (ck_T [8] h0 t0).bind fun _ => bd_I (f_M_bufferBelow t0 h0) (fun v1 h1 => (fd_I [8] 21 h1 t0).bind fun v2 => if v2 = 0 then (if x1 < 0 then (f_M_mark_b27 t0 x1 v1 t0 h1) else (if x1 ≤ 32 then (if 0 ≤ v1 then (f_M_mark_b40 t0 x1 v1 0 t0 h1) else (f_M_mark_b40 t0 x1 v1 3 t0 h1)) else (f_M_mark_b27 t0 x1 v1 t0 h1))) else (f_M_mark_b40 t0 x1 v1 1 t0 h1))
set_option maxRecDepth 100000 in
set_option maxHeartbeats 4000000 in
theorem k_M_mark_b87 {p : Program} {l : Launch} {e : Env} {s : State} {m : MethodId} {args : Array Value} {below : List Frame} {meth : Method} {c : Code} {s0 : State} {A0 : Array Value} {G : Gx_t} {r : Outcome × Hs_t} {rm : Room} (hc : Cx_t p s m meth c s0 A0 l G y_M_mark b_M_mark 4 none []) (hrm : rm_Ok 0 0 1 23 rm) : ∀ (n : Nat) (t0 : Nat) (x3 : Int32) (h0 : Hs_t) (H : Heap) (locs : List Loc) (ls : Array Slot), Rp_h G s0.heap h0 H → Lo_k s0 locs → lv_has ls 4 [(0, .ref t0), (3, .int x3)] → f_M_mark_b87 n t0 x3 h0 = some r → W p l e rm s m args below meth c H locs 0 0 (xq_MQ G s0 below r s rm.cells rm.slots) (F0 m 87 ls []) := by
  have hx := hc.x
  have hb := hc.b
  obtain ⟨hm1, hm2, hm3, hm4⟩ := id hrm
  intro n
  induction n with
  | zero =>
    intro t0 x3 h0 H locs ls hR hLo hl heq
    unfold f_M_mark_b87 at heq
    cases heq
  | succ n hr87 =>
    intro t0 x3 h0 H locs ls hR hLo hl heq
    unfold f_M_mark_b87 at heq
    refine lv_iload_n hx hb d_M_mark_87 rfl (lv_at hl 1 rfl) ?_
    refine lv_aload_n hx hb d_M_mark_88 rfl (lv_at hl 0 rfl) ?_
    refine x_gI hc hR fl_M_79 heq d_M_mark_89 (fun v9 heq => ?_)
    refine lv_icmp_ge (tgt := 125) hx hb d_M_mark_92 rfl (fun hq => ?_) (fun hq => ?_)
    · rw [if_pos hq] at heq
      refine lv_aload_n hx hb d_M_mark_125 rfl (lv_at hl 0 rfl) ?_
      refine lv_aload_n hx hb d_M_mark_126 rfl (lv_at hl 0 rfl) ?_
      refine x_gI hc hR fl_M_120 heq d_M_mark_127 (fun v10 heq => ?_)
      refine x_pZ hc hR hLo fl_M_151 (Or.inl rfl) heq d_M_mark_130 (fun h7 H locs hR hLo heq => ?_)
      exact x_vret hc hR hLo ⟨by omega, by omega⟩ heq d_M_mark_133
    · rw [if_neg hq] at heq
      refine lv_aload_n hx hb d_M_mark_95 rfl (lv_at hl 0 rfl) ?_
      refine x_gA hc hR fl_M_29 heq d_M_mark_96 (fun v11 heq => ?_)
      refine lv_iload_n hx hb d_M_mark_99 rfl (lv_at hl 1 rfl) ?_
      refine lv_aload_n hx hb d_M_mark_100 rfl (lv_at hl 0 rfl) ?_
      refine x_gA hc hR fl_M_26 heq d_M_mark_101 (fun v12 heq => ?_)
      refine lv_iload_n hx hb d_M_mark_104 rfl (lv_at hl 1 rfl) ?_
      refine x_aI hc hR heq d_M_mark_105 (fun v13 heq => ?_)
      refine x_sI hc hR hLo heq d_M_mark_106 (fun h8 H locs hR hLo heq => ?_)
      refine lv_aload_n hx hb d_M_mark_107 rfl (lv_at hl 0 rfl) ?_
      refine x_gA hc hR fl_M_35 heq d_M_mark_108 (fun v14 heq => ?_)
      refine lv_iload_n hx hb d_M_mark_111 rfl (lv_at hl 1 rfl) ?_
      refine lv_aload_n hx hb d_M_mark_112 rfl (lv_at hl 0 rfl) ?_
      refine x_gA hc hR fl_M_32 heq d_M_mark_113 (fun v15 heq => ?_)
      refine lv_iload_n hx hb d_M_mark_116 rfl (lv_at hl 1 rfl) ?_
      refine x_aZ hc hR heq d_M_mark_117 (fun v16 heq => ?_)
      refine x_sZ hc hR hLo heq d_M_mark_118 (fun h9 H locs hR hLo heq => ?_)
      refine lv_iinc (k := 1) (v := (x3 + 1)) (lv' := [(3, .int (x3 + 1)), (0, .ref t0)]) hx hb d_M_mark_119 hl rfl rfl (by decide) rfl (fun ls hl => ?_)
      refine lv_goto (tgt := 87) hx hb d_M_mark_122 rfl ?_
      refine W.widen (k := 0) (n := 0) (by omega) (by omega) ?_
      exact hr87 t0 (x3 + 1) h9 H locs ls hR hLo (lv_sub hl [1, 0] rfl) heq
set_option maxRecDepth 100000 in
set_option maxHeartbeats 4000000 in
theorem k_M_mark_b40 {p : Program} {l : Launch} {e : Env} {s : State} {m : MethodId} {args : Array Value} {below : List Frame} {meth : Method} {c : Code} {s0 : State} {A0 : Array Value} {G : Gx_t} {r : Outcome × Hs_t} {rm : Room} (hc : Cx_t p s m meth c s0 A0 l G y_M_mark b_M_mark 4 none []) (hrm : rm_Ok 0 0 1 23 rm) : ∀ (t0 : Nat) (x1 : Int32) (x2 : Int32) (sv0 : Int32) (sv1 : Nat) (h0 : Hs_t) (H : Heap) (locs : List Loc) (ls : Array Slot), Rp_h G s0.heap h0 H → Lo_k s0 locs → lv_has ls 4 [(0, .ref t0), (1, .int x1), (2, .int x2)] → f_M_mark_b40 t0 x1 x2 sv0 sv1 h0 = some r → W p l e rm s m args below meth c H locs 0 0 (xq_MQ G s0 below r s rm.cells rm.slots) (F0 m 40 ls [.int sv0, .ref sv1]) := by
  have hx := hc.x
  have hb := hc.b
  obtain ⟨hm1, hm2, hm3, hm4⟩ := id hrm
  intro t0 x1 x2 sv0 sv1 h0 H locs ls hR hLo hl heq
  unfold f_M_mark_b40 at heq
  refine x_pV hc hR hLo fl_M_65 (Or.inl rfl) rfl rfl heq d_M_mark_40 (fun h2 H locs hR hLo heq => ?_)
  refine lv_aload_n hx hb d_M_mark_43 rfl (lv_at hl 0 rfl) ?_
  refine x_gI hc hR fl_M_65 heq d_M_mark_44 (fun v3 heq => ?_)
  refine lv_if_le (tgt := 51) hx hb d_M_mark_47 rfl (fun hq => ?_) (fun hq => ?_)
  · rw [if_pos hq] at heq
    refine lv_aload_n hx hb d_M_mark_51 rfl (lv_at hl 0 rfl) ?_
    refine lv_iload_n hx hb d_M_mark_52 rfl (lv_at hl 2 rfl) ?_
    refine lv_aload_n hx hb d_M_mark_53 rfl (lv_at hl 0 rfl) ?_
    refine x_gA hc hR fl_M_44 heq d_M_mark_54 (fun v4 heq => ?_)
    refine lv_iload_n hx hb d_M_mark_57 rfl (lv_at hl 2 rfl) ?_
    refine x_aI hc hR heq d_M_mark_58 (fun v5 heq => ?_)
    refine x_ck heq (fun tt fs ha ht heq => ?_)
    obtain rfl : tt = 8 := by simpa using ht
    refine x_bV (mc := 0) (ms := 0) (st := []) hc hLo heq ⟨by omega, by omega⟩ (fun r9 h9 => x_runV hc (c_M_forget hc.g rm_M_forget rk_M_forget _ _ _ _ _ h9) md_M_forget hR ha rfl wd_841 wd_843 sp_16 hl.1 ml_M_forget rfl (Nat.le_of_ble_eq_true rfl) d_M_mark_59 ⟨by show 0 + 1 ≤ _; omega, by show 8 + (4 + 11) + (0) ≤ _; omega⟩ ⟨by show 0 + 0 ≤ _; omega, by show 0 + 0 ≤ _; omega⟩) (fun h3 H locs hR hLo heq => ?_)
    refine lv_aload_n hx hb d_M_mark_62 rfl (lv_at hl 0 rfl) ?_
    refine x_gA hc hR fl_M_44 heq d_M_mark_63 (fun v6 heq => ?_)
    refine lv_iload_n hx hb d_M_mark_66 rfl (lv_at hl 2 rfl) ?_
    refine lv_iconst (v := 0) hx hb d_M_mark_67 (by decide) ?_
    refine x_sI hc hR hLo heq d_M_mark_68 (fun h4 H locs hR hLo heq => ?_)
    refine lv_aload_n hx hb d_M_mark_69 rfl (lv_at hl 0 rfl) ?_
    refine x_gA hc hR fl_M_47 heq d_M_mark_70 (fun v7 heq => ?_)
    refine lv_iload_n hx hb d_M_mark_73 rfl (lv_at hl 2 rfl) ?_
    refine lv_iconst (v := 1) hx hb d_M_mark_74 (by decide) ?_
    refine x_sZ hc hR hLo heq d_M_mark_75 (fun h5 H locs hR hLo heq => ?_)
    refine lv_aload_n hx hb d_M_mark_76 rfl (lv_at hl 0 rfl) ?_
    refine x_gA hc hR fl_M_50 heq d_M_mark_77 (fun v8 heq => ?_)
    refine lv_iload_n hx hb d_M_mark_80 rfl (lv_at hl 2 rfl) ?_
    refine lv_iload_n hx hb d_M_mark_81 rfl (lv_at hl 1 rfl) ?_
    refine x_sI hc hR hLo heq d_M_mark_82 (fun h6 H locs hR hLo heq => ?_)
    refine lv_iload_n hx hb d_M_mark_83 rfl (lv_at hl 2 rfl) ?_
    refine lv_iconst (v := 1) hx hb d_M_mark_84 (by decide) ?_
    refine lv_iadd hx hb d_M_mark_85 ?_
    refine lv_istore_n (lv' := [(3, .int (x2 + 1)), (0, .ref t0), (1, .int x1), (2, .int x2)]) hx hb d_M_mark_86 rfl hl (by decide) rfl (fun ls hl => ?_)
    refine W.widen (k := 0) (n := 0) (by omega) (by omega) ?_
    exact k_M_mark_b87 hc hrm fu_N t0 (x2 + 1) h6 H locs ls hR hLo (lv_sub hl [1, 0] rfl) heq
  · rw [if_neg hq] at heq
    exact x_vret hc hR hLo ⟨by omega, by omega⟩ heq d_M_mark_50
set_option maxRecDepth 100000 in
set_option maxHeartbeats 4000000 in
theorem k_M_mark_b27 {p : Program} {l : Launch} {e : Env} {s : State} {m : MethodId} {args : Array Value} {below : List Frame} {meth : Method} {c : Code} {s0 : State} {A0 : Array Value} {G : Gx_t} {r : Outcome × Hs_t} {rm : Room} (hc : Cx_t p s m meth c s0 A0 l G y_M_mark b_M_mark 4 none []) (hrm : rm_Ok 0 0 1 23 rm) : ∀ (t0 : Nat) (x1 : Int32) (x2 : Int32) (sv0 : Nat) (h0 : Hs_t) (H : Heap) (locs : List Loc) (ls : Array Slot), Rp_h G s0.heap h0 H → Lo_k s0 locs → lv_has ls 4 [(0, .ref t0), (1, .int x1), (2, .int x2)] → f_M_mark_b27 t0 x1 x2 sv0 h0 = some r → W p l e rm s m args below meth c H locs 0 0 (xq_MQ G s0 below r s rm.cells rm.slots) (F0 m 27 ls [.ref sv0]) := by
  have hx := hc.x
  have hb := hc.b
  obtain ⟨hm1, hm2, hm3, hm4⟩ := id hrm
  intro t0 x1 x2 sv0 h0 H locs ls hR hLo hl heq
  unfold f_M_mark_b27 at heq
  refine lv_iconst (v := 2) hx hb d_M_mark_27 (by decide) ?_
  refine lv_goto (tgt := 40) hx hb d_M_mark_28 rfl ?_
  refine W.widen (k := 0) (n := 0) (by omega) (by omega) ?_
  exact k_M_mark_b40 hc hrm t0 x1 x2 2 sv0 h0 H locs ls hR hLo (lv_sub hl [0, 1, 2] rfl) heq
set_option maxRecDepth 100000 in
set_option maxHeartbeats 4000000 in
theorem c_M_mark {l : Launch} {s0 : State} {A0 : Array Value} {G : Gx_t} (hG : G_0 l s0 A0 G) (rm : Room) (hrm : rm_Ok 0 0 1 23 rm) (t0 : Nat) (x1 : Int32) (h0 : Hs_t) (r : Outcome × Hs_t) (heq : f_M_mark t0 x1 h0 = some r) : M_X G s0 l y_M_mark (.code y_M_mark b_M_mark 4 none) rm [.ref t0, .int x1] h0 r := by
  refine M_X.of (by decide) hG (fun p e s m below meth c H hc hR => ?_)
  have hx := hc.x
  have hb := hc.b
  obtain ⟨hm1, hm2, hm3, hm4⟩ := id hrm
  have hLo : Lo_k s0 [] := fun _ hq => absurd hq List.not_mem_nil
  have hl := lv_entry ([.ref t0, .int x1]) (n := 4) (Nat.le_of_ble_eq_true rfl)
  rw [lg_entry_eq]
  generalize (lg_sl ([.ref t0, .int x1]) ++ List.replicate (4 - (lg_sl ([.ref t0, .int x1])).length) Slot.unset).toArray = ls at hl ⊢
  have hl : lv_has ls 4 [(0, .ref t0), (1, .int x1)] := hl
  generalize hle : ([] : List Loc) = locs at hLo ⊢
  unfold f_M_mark at heq
  refine lv_aload_n hx hb d_M_mark_0 rfl (lv_at hl 0 rfl) ?_
  refine x_ck heq (fun tt fs ha ht heq => ?_)
  obtain rfl : tt = 8 := by simpa using ht
  refine x_bI (mc := 0) (ms := 0) (st := []) hc hLo heq ⟨by omega, by omega⟩ (fun r9 h9 => x_runV hc (c_M_bufferBelow hc.g rm_M_bufferBelow rk_M_bufferBelow _ _ _ h9) md_M_bufferBelow hR ha rfl wd_913 wd_915 sp_27 hl.1 ml_M_bufferBelow rfl (Nat.le_of_ble_eq_true rfl) d_M_mark_1 ⟨by show 0 + 1 ≤ _; omega, by show 8 + (2 + 11) + (0) ≤ _; omega⟩ ⟨by show 0 + 0 ≤ _; omega, by show 0 + 0 ≤ _; omega⟩) (fun v1 h1 H locs hR hLo heq => ?_)
  refine lv_istore_n (lv' := [(2, .int v1), (0, .ref t0), (1, .int x1)]) hx hb d_M_mark_4 rfl hl (by decide) rfl (fun ls hl => ?_)
  refine lv_aload_n hx hb d_M_mark_5 rfl (lv_at hl 1 rfl) ?_
  refine lv_aload_n hx hb d_M_mark_6 rfl (lv_at hl 1 rfl) ?_
  refine x_gI hc hR fl_M_75 heq d_M_mark_7 (fun v2 heq => ?_)
  refine lv_if_eq (tgt := 17) hx hb d_M_mark_10 rfl (fun hq => ?_) (fun hq => ?_)
  · rw [if_pos hq] at heq
    refine lv_iload_n hx hb d_M_mark_17 rfl (lv_at hl 2 rfl) ?_
    refine lv_if_lt (tgt := 27) hx hb d_M_mark_18 rfl (fun hq => ?_) (fun hq => ?_)
    · rw [if_pos hq] at heq
      refine W.widen (k := 0) (n := 0) (by omega) (by omega) ?_
      exact k_M_mark_b27 hc hrm t0 x1 v1 t0 h1 H locs ls hR hLo (lv_sub hl [1, 2, 0] rfl) heq
    · rw [if_neg hq] at heq
      refine lv_iload_n hx hb d_M_mark_21 rfl (lv_at hl 2 rfl) ?_
      refine lv_bipush (v := 32) hx hb d_M_mark_22 (by decide) ?_
      refine lv_icmp_le (tgt := 31) hx hb d_M_mark_24 rfl (fun hq => ?_) (fun hq => ?_)
      · rw [if_pos hq] at heq
        refine lv_iload_n hx hb d_M_mark_31 rfl (lv_at hl 0 rfl) ?_
        refine lv_if_ge (tgt := 39) hx hb d_M_mark_32 rfl (fun hq => ?_) (fun hq => ?_)
        · rw [if_pos hq] at heq
          refine lv_iconst (v := 0) hx hb d_M_mark_39 (by decide) ?_
          refine W.widen (k := 0) (n := 0) (by omega) (by omega) ?_
          exact k_M_mark_b40 hc hrm t0 x1 v1 0 t0 h1 H locs ls hR hLo (lv_sub hl [1, 2, 0] rfl) heq
        · rw [if_neg hq] at heq
          refine lv_iconst (v := 3) hx hb d_M_mark_35 (by decide) ?_
          refine lv_goto (tgt := 40) hx hb d_M_mark_36 rfl ?_
          refine W.widen (k := 0) (n := 0) (by omega) (by omega) ?_
          exact k_M_mark_b40 hc hrm t0 x1 v1 3 t0 h1 H locs ls hR hLo (lv_sub hl [1, 2, 0] rfl) heq
      · rw [if_neg hq] at heq
        refine W.widen (k := 0) (n := 0) (by omega) (by omega) ?_
        exact k_M_mark_b27 hc hrm t0 x1 v1 t0 h1 H locs ls hR hLo (lv_sub hl [1, 2, 0] rfl) heq
  · rw [if_neg hq] at heq
    refine lv_iconst (v := 1) hx hb d_M_mark_13 (by decide) ?_
    refine lv_goto (tgt := 40) hx hb d_M_mark_14 rfl ?_
    refine W.widen (k := 0) (n := 0) (by omega) (by omega) ?_
    exact k_M_mark_b40 hc hrm t0 x1 v1 1 t0 h1 H locs ls hR hLo (lv_sub hl [1, 2, 0] rfl) heq
def rm_M_mark : Room := { frames := 1, cells := 0, slots := 0, locals := 23 }
theorem rk_M_mark : rm_Ok 0 0 1 23 rm_M_mark := ⟨Nat.le_refl _, Nat.le_refl _, Nat.le_refl _, Nat.le_refl _⟩
def f_M_reset_b61 : Nat → Nat → Int32 → Hs_t → Rs_t
  | 0, _, _, _ => none
  | n + 1, t0, x2, h0 => (fd_I [8] 6 h0 t0).bind fun v7 => if v7 ≤ x2 then ((fd_I [8] 23 h0 t0).bind fun v8 => (pt_Z [8] 22 h0 t0 v8).bind fun h4 => re_V h4) else ((fd_A [8] 9 h0 t0).bind fun v9 => (fd_A [8] 10 h0 t0).bind fun v10 => (ar_I h0 v10 x2).bind fun v11 => (as_I h0 v9 x2 v11).bind fun h5 => (fd_A [8] 11 h5 t0).bind fun v12 => (fd_A [8] 12 h5 t0).bind fun v13 => (ar_Z h5 v13 x2).bind fun v14 => (as_Z h5 v12 x2 v14).bind fun h6 => (f_M_reset_b61 n) t0 (x2 + 1) h6)
def f_M_reset_b39 (t0 : Nat) (x1 : Int32) (sv0 : Int32) (sv1 : Nat) (h0 : Hs_t) : Rs_t := (pt_V [8] 0 h0 sv1 (.int sv0)).bind fun h2 => (fd_I [8] 0 h2 t0).bind fun v5 => if v5 ≤ 0 then ((fd_A [8] 15 h2 t0).bind fun v6 => (as_I h2 v6 x1 0).bind fun h3 => f_M_reset_b61 fu_N t0 (x1 + 1) h3) else (re_V h2)
def f_M_reset (t0 : Nat) (h0 : Hs_t) : Rs_t := (ck_T [8] h0 t0).bind fun _ => bd_I (f_M_bufferBelow t0 h0) (fun v1 h1 => (fd_I [8] 21 h1 t0).bind fun v2 => if v2 = 0 then (if 0 ≤ v1 then ((fd_A [8] 16 h1 t0).bind fun v3 => (ar_Z h1 v3 v1).bind fun v4 => if v4 = 0 then (f_M_reset_b39 t0 v1 1 t0 h1) else (f_M_reset_b39 t0 v1 0 t0 h1)) else (f_M_reset_b39 t0 v1 2 t0 h1)) else (f_M_reset_b39 t0 v1 1 t0 h1))
set_option maxRecDepth 100000 in
set_option maxHeartbeats 4000000 in
theorem k_M_reset_b61 {p : Program} {l : Launch} {e : Env} {s : State} {m : MethodId} {args : Array Value} {below : List Frame} {meth : Method} {c : Code} {s0 : State} {A0 : Array Value} {G : Gx_t} {r : Outcome × Hs_t} {rm : Room} (hc : Cx_t p s m meth c s0 A0 l G y_M_reset b_M_reset 3 none []) (hrm : rm_Ok 0 0 1 21 rm) : ∀ (n : Nat) (t0 : Nat) (x2 : Int32) (h0 : Hs_t) (H : Heap) (locs : List Loc) (ls : Array Slot), Rp_h G s0.heap h0 H → Lo_k s0 locs → lv_has ls 3 [(0, .ref t0), (2, .int x2)] → f_M_reset_b61 n t0 x2 h0 = some r → W p l e rm s m args below meth c H locs 0 0 (xq_MQ G s0 below r s rm.cells rm.slots) (F0 m 61 ls []) := by
  have hx := hc.x
  have hb := hc.b
  obtain ⟨hm1, hm2, hm3, hm4⟩ := id hrm
  intro n
  induction n with
  | zero =>
    intro t0 x2 h0 H locs ls hR hLo hl heq
    unfold f_M_reset_b61 at heq
    cases heq
  | succ n hr61 =>
    intro t0 x2 h0 H locs ls hR hLo hl heq
    unfold f_M_reset_b61 at heq
    refine lv_iload_n hx hb d_M_reset_61 rfl (lv_at hl 1 rfl) ?_
    refine lv_aload_n hx hb d_M_reset_62 rfl (lv_at hl 0 rfl) ?_
    refine x_gI hc hR fl_M_79 heq d_M_reset_63 (fun v7 heq => ?_)
    refine lv_icmp_ge (tgt := 99) hx hb d_M_reset_66 rfl (fun hq => ?_) (fun hq => ?_)
    · rw [if_pos hq] at heq
      refine lv_aload_n hx hb d_M_reset_99 rfl (lv_at hl 0 rfl) ?_
      refine lv_aload_n hx hb d_M_reset_100 rfl (lv_at hl 0 rfl) ?_
      refine x_gI hc hR fl_M_151 heq d_M_reset_101 (fun v8 heq => ?_)
      refine x_pZ hc hR hLo fl_M_120 (Or.inl rfl) heq d_M_reset_104 (fun h4 H locs hR hLo heq => ?_)
      exact x_vret hc hR hLo ⟨by omega, by omega⟩ heq d_M_reset_107
    · rw [if_neg hq] at heq
      refine lv_aload_n hx hb d_M_reset_69 rfl (lv_at hl 0 rfl) ?_
      refine x_gA hc hR fl_M_26 heq d_M_reset_70 (fun v9 heq => ?_)
      refine lv_iload_n hx hb d_M_reset_73 rfl (lv_at hl 1 rfl) ?_
      refine lv_aload_n hx hb d_M_reset_74 rfl (lv_at hl 0 rfl) ?_
      refine x_gA hc hR fl_M_29 heq d_M_reset_75 (fun v10 heq => ?_)
      refine lv_iload_n hx hb d_M_reset_78 rfl (lv_at hl 1 rfl) ?_
      refine x_aI hc hR heq d_M_reset_79 (fun v11 heq => ?_)
      refine x_sI hc hR hLo heq d_M_reset_80 (fun h5 H locs hR hLo heq => ?_)
      refine lv_aload_n hx hb d_M_reset_81 rfl (lv_at hl 0 rfl) ?_
      refine x_gA hc hR fl_M_32 heq d_M_reset_82 (fun v12 heq => ?_)
      refine lv_iload_n hx hb d_M_reset_85 rfl (lv_at hl 1 rfl) ?_
      refine lv_aload_n hx hb d_M_reset_86 rfl (lv_at hl 0 rfl) ?_
      refine x_gA hc hR fl_M_35 heq d_M_reset_87 (fun v13 heq => ?_)
      refine lv_iload_n hx hb d_M_reset_90 rfl (lv_at hl 1 rfl) ?_
      refine x_aZ hc hR heq d_M_reset_91 (fun v14 heq => ?_)
      refine x_sZ hc hR hLo heq d_M_reset_92 (fun h6 H locs hR hLo heq => ?_)
      refine lv_iinc (k := 1) (v := (x2 + 1)) (lv' := [(2, .int (x2 + 1)), (0, .ref t0)]) hx hb d_M_reset_93 hl rfl rfl (by decide) rfl (fun ls hl => ?_)
      refine lv_goto (tgt := 61) hx hb d_M_reset_96 rfl ?_
      refine W.widen (k := 0) (n := 0) (by omega) (by omega) ?_
      exact hr61 t0 (x2 + 1) h6 H locs ls hR hLo (lv_sub hl [1, 0] rfl) heq
set_option maxRecDepth 100000 in
set_option maxHeartbeats 4000000 in
theorem k_M_reset_b39 {p : Program} {l : Launch} {e : Env} {s : State} {m : MethodId} {args : Array Value} {below : List Frame} {meth : Method} {c : Code} {s0 : State} {A0 : Array Value} {G : Gx_t} {r : Outcome × Hs_t} {rm : Room} (hc : Cx_t p s m meth c s0 A0 l G y_M_reset b_M_reset 3 none []) (hrm : rm_Ok 0 0 1 21 rm) : ∀ (t0 : Nat) (x1 : Int32) (sv0 : Int32) (sv1 : Nat) (h0 : Hs_t) (H : Heap) (locs : List Loc) (ls : Array Slot), Rp_h G s0.heap h0 H → Lo_k s0 locs → lv_has ls 3 [(0, .ref t0), (1, .int x1)] → f_M_reset_b39 t0 x1 sv0 sv1 h0 = some r → W p l e rm s m args below meth c H locs 0 0 (xq_MQ G s0 below r s rm.cells rm.slots) (F0 m 39 ls [.int sv0, .ref sv1]) := by
  have hx := hc.x
  have hb := hc.b
  obtain ⟨hm1, hm2, hm3, hm4⟩ := id hrm
  intro t0 x1 sv0 sv1 h0 H locs ls hR hLo hl heq
  unfold f_M_reset_b39 at heq
  refine x_pV hc hR hLo fl_M_65 (Or.inl rfl) rfl rfl heq d_M_reset_39 (fun h2 H locs hR hLo heq => ?_)
  refine lv_aload_n hx hb d_M_reset_42 rfl (lv_at hl 0 rfl) ?_
  refine x_gI hc hR fl_M_65 heq d_M_reset_43 (fun v5 heq => ?_)
  refine lv_if_le (tgt := 50) hx hb d_M_reset_46 rfl (fun hq => ?_) (fun hq => ?_)
  · rw [if_pos hq] at heq
    refine lv_aload_n hx hb d_M_reset_50 rfl (lv_at hl 0 rfl) ?_
    refine x_gA hc hR fl_M_44 heq d_M_reset_51 (fun v6 heq => ?_)
    refine lv_iload_n hx hb d_M_reset_54 rfl (lv_at hl 1 rfl) ?_
    refine lv_iconst (v := 0) hx hb d_M_reset_55 (by decide) ?_
    refine x_sI hc hR hLo heq d_M_reset_56 (fun h3 H locs hR hLo heq => ?_)
    refine lv_iload_n hx hb d_M_reset_57 rfl (lv_at hl 1 rfl) ?_
    refine lv_iconst (v := 1) hx hb d_M_reset_58 (by decide) ?_
    refine lv_iadd hx hb d_M_reset_59 ?_
    refine lv_istore_n (lv' := [(2, .int (x1 + 1)), (0, .ref t0), (1, .int x1)]) hx hb d_M_reset_60 rfl hl (by decide) rfl (fun ls hl => ?_)
    refine W.widen (k := 0) (n := 0) (by omega) (by omega) ?_
    exact k_M_reset_b61 hc hrm fu_N t0 (x1 + 1) h3 H locs ls hR hLo (lv_sub hl [1, 0] rfl) heq
  · rw [if_neg hq] at heq
    exact x_vret hc hR hLo ⟨by omega, by omega⟩ heq d_M_reset_49
set_option maxRecDepth 100000 in
set_option maxHeartbeats 4000000 in
theorem c_M_reset {l : Launch} {s0 : State} {A0 : Array Value} {G : Gx_t} (hG : G_0 l s0 A0 G) (rm : Room) (hrm : rm_Ok 0 0 1 21 rm) (t0 : Nat) (h0 : Hs_t) (r : Outcome × Hs_t) (heq : f_M_reset t0 h0 = some r) : M_X G s0 l y_M_reset (.code y_M_reset b_M_reset 3 none) rm [.ref t0] h0 r := by
  refine M_X.of (by decide) hG (fun p e s m below meth c H hc hR => ?_)
  have hx := hc.x
  have hb := hc.b
  obtain ⟨hm1, hm2, hm3, hm4⟩ := id hrm
  have hLo : Lo_k s0 [] := fun _ hq => absurd hq List.not_mem_nil
  have hl := lv_entry ([.ref t0]) (n := 3) (Nat.le_of_ble_eq_true rfl)
  rw [lg_entry_eq]
  generalize (lg_sl ([.ref t0]) ++ List.replicate (3 - (lg_sl ([.ref t0])).length) Slot.unset).toArray = ls at hl ⊢
  have hl : lv_has ls 3 [(0, .ref t0)] := hl
  generalize hle : ([] : List Loc) = locs at hLo ⊢
  unfold f_M_reset at heq
  refine lv_aload_n hx hb d_M_reset_0 rfl (lv_at hl 0 rfl) ?_
  refine x_ck heq (fun tt fs ha ht heq => ?_)
  obtain rfl : tt = 8 := by simpa using ht
  refine x_bI (mc := 0) (ms := 0) (st := []) hc hLo heq ⟨by omega, by omega⟩ (fun r9 h9 => x_runV hc (c_M_bufferBelow hc.g rm_M_bufferBelow rk_M_bufferBelow _ _ _ h9) md_M_bufferBelow hR ha rfl wd_913 wd_915 sp_27 hl.1 ml_M_bufferBelow rfl (Nat.le_of_ble_eq_true rfl) d_M_reset_1 ⟨by show 0 + 1 ≤ _; omega, by show 8 + (2 + 11) + (0) ≤ _; omega⟩ ⟨by show 0 + 0 ≤ _; omega, by show 0 + 0 ≤ _; omega⟩) (fun v1 h1 H locs hR hLo heq => ?_)
  refine lv_istore_n (lv' := [(1, .int v1), (0, .ref t0)]) hx hb d_M_reset_4 rfl hl (by decide) rfl (fun ls hl => ?_)
  refine lv_aload_n hx hb d_M_reset_5 rfl (lv_at hl 1 rfl) ?_
  refine lv_aload_n hx hb d_M_reset_6 rfl (lv_at hl 1 rfl) ?_
  refine x_gI hc hR fl_M_75 heq d_M_reset_7 (fun v2 heq => ?_)
  refine lv_if_eq (tgt := 17) hx hb d_M_reset_10 rfl (fun hq => ?_) (fun hq => ?_)
  · rw [if_pos hq] at heq
    refine lv_iload_n hx hb d_M_reset_17 rfl (lv_at hl 0 rfl) ?_
    refine lv_if_ge (tgt := 25) hx hb d_M_reset_18 rfl (fun hq => ?_) (fun hq => ?_)
    · rw [if_pos hq] at heq
      refine lv_aload_n hx hb d_M_reset_25 rfl (lv_at hl 1 rfl) ?_
      refine x_gA hc hR fl_M_47 heq d_M_reset_26 (fun v3 heq => ?_)
      refine lv_iload_n hx hb d_M_reset_29 rfl (lv_at hl 0 rfl) ?_
      refine x_aZ hc hR heq d_M_reset_30 (fun v4 heq => ?_)
      refine lv_if_ne (tgt := 38) hx hb d_M_reset_31 rfl (fun hq => ?_) (fun hq => ?_)
      · rw [if_neg hq] at heq
        refine lv_iconst (v := 0) hx hb d_M_reset_38 (by decide) ?_
        refine W.widen (k := 0) (n := 0) (by omega) (by omega) ?_
        exact k_M_reset_b39 hc hrm t0 v1 0 t0 h1 H locs ls hR hLo (lv_sub hl [1, 0] rfl) heq
      · rw [if_pos hq] at heq
        refine lv_iconst (v := 1) hx hb d_M_reset_34 (by decide) ?_
        refine lv_goto (tgt := 39) hx hb d_M_reset_35 rfl ?_
        refine W.widen (k := 0) (n := 0) (by omega) (by omega) ?_
        exact k_M_reset_b39 hc hrm t0 v1 1 t0 h1 H locs ls hR hLo (lv_sub hl [1, 0] rfl) heq
    · rw [if_neg hq] at heq
      refine lv_iconst (v := 2) hx hb d_M_reset_21 (by decide) ?_
      refine lv_goto (tgt := 39) hx hb d_M_reset_22 rfl ?_
      refine W.widen (k := 0) (n := 0) (by omega) (by omega) ?_
      exact k_M_reset_b39 hc hrm t0 v1 2 t0 h1 H locs ls hR hLo (lv_sub hl [1, 0] rfl) heq
  · rw [if_neg hq] at heq
    refine lv_iconst (v := 1) hx hb d_M_reset_13 (by decide) ?_
    refine lv_goto (tgt := 39) hx hb d_M_reset_14 rfl ?_
    refine W.widen (k := 0) (n := 0) (by omega) (by omega) ?_
    exact k_M_reset_b39 hc hrm t0 v1 1 t0 h1 H locs ls hR hLo (lv_sub hl [1, 0] rfl) heq
def rm_M_reset : Room := { frames := 1, cells := 0, slots := 0, locals := 21 }
theorem rk_M_reset : rm_Ok 0 0 1 21 rm_M_reset := ⟨Nat.le_refl _, Nat.le_refl _, Nat.le_refl _, Nat.le_refl _⟩
def f_M_unread_b82 (t0 : Nat) (x1 : Int32) (x2 : Int32) (sv0 : Int32) (sv1 : Nat) (h0 : Hs_t) : Rs_t := (pt_V [8] 0 h0 sv1 (.int sv0)).bind fun h1 => (fd_I [8] 0 h1 t0).bind fun v9 => if v9 ≤ 0 then ((fd_A [8] 13 h1 t0).bind fun v10 => (fd_A [8] 14 h1 t0).bind fun v11 => (ar_I h1 v11 x2).bind fun v12 => (as_I h1 v10 ((64 * x2) + v12) x1).bind fun h2 => (fd_A [8] 14 h2 t0).bind fun v13 => (fd_A [8] 14 h2 t0).bind fun v14 => (ar_I h2 v14 x2).bind fun v15 => (as_I h2 v13 x2 (v15 + 1)).bind fun h3 => re_V h3) else (re_V h1)
def f_M_unread_b50 (t0 : Nat) (x1 : Int32) (x2 : Int32) (sv0 : Nat) (h0 : Hs_t) : Rs_t := f_M_unread_b82 t0 x1 x2 2 sv0 h0
def f_M_unread_b26 (t0 : Nat) (x1 : Int32) (x2 : Int32) (sv0 : Int32) (h0 : Hs_t) : Rs_t := (fd_I [8] 21 h0 t0).bind fun v4 => if v4 = 0 then (if x1 < 0 then (f_M_unread_b50 t0 x1 x2 t0 h0) else (if x1 ≤ 255 then (if sv0 = 0 then (f_M_unread_b82 t0 x1 x2 3 t0 h0) else ((fd_A [8] 14 h0 t0).bind fun v5 => (ar_I h0 v5 x2).bind fun v6 => (fd_A [8] 8 h0 t0).bind fun v7 => (ar_I h0 v7 x2).bind fun v8 => if v6 = v8 then (f_M_unread_b82 t0 x1 x2 1 t0 h0) else (f_M_unread_b82 t0 x1 x2 0 t0 h0))) else (f_M_unread_b50 t0 x1 x2 t0 h0))) else (f_M_unread_b82 t0 x1 x2 1 t0 h0)
def f_M_unread_b25 (t0 : Nat) (x1 : Int32) (x2 : Int32) (h0 : Hs_t) : Rs_t := f_M_unread_b26 t0 x1 x2 0 h0
def f_M_unread (t0 : Nat) (x1 : Int32) (h0 : Hs_t) : Rs_t := (fd_I [8] 6 h0 t0).bind fun v1 => if (v1 - 1) < 0 then (f_M_unread_b25 t0 x1 (v1 - 1) h0) else ((fd_A [8] 7 h0 t0).bind fun v2 => (ar_I h0 v2 (v1 - 1)).bind fun v3 => if v3 = 2 then (f_M_unread_b26 t0 x1 (v1 - 1) 1 h0) else (f_M_unread_b25 t0 x1 (v1 - 1) h0))
set_option maxRecDepth 100000 in
set_option maxHeartbeats 4000000 in
theorem k_M_unread_b82 {p : Program} {l : Launch} {e : Env} {s : State} {m : MethodId} {args : Array Value} {below : List Frame} {meth : Method} {c : Code} {s0 : State} {A0 : Array Value} {G : Gx_t} {r : Outcome × Hs_t} {rm : Room} (hc : Cx_t p s m meth c s0 A0 l G y_M_unread b_M_unread 4 none []) (hrm : rm_Ok 0 0 0 0 rm) : ∀ (t0 : Nat) (x1 : Int32) (x2 : Int32) (sv0 : Int32) (sv1 : Nat) (h0 : Hs_t) (H : Heap) (locs : List Loc) (ls : Array Slot), Rp_h G s0.heap h0 H → Lo_k s0 locs → lv_has ls 4 [(0, .ref t0), (1, .int x1), (2, .int x2)] → f_M_unread_b82 t0 x1 x2 sv0 sv1 h0 = some r → W p l e rm s m args below meth c H locs 0 0 (xq_MQ G s0 below r s rm.cells rm.slots) (F0 m 82 ls [.int sv0, .ref sv1]) := by
  have hx := hc.x
  have hb := hc.b
  obtain ⟨hm1, hm2, hm3, hm4⟩ := id hrm
  intro t0 x1 x2 sv0 sv1 h0 H locs ls hR hLo hl heq
  unfold f_M_unread_b82 at heq
  refine x_pV hc hR hLo fl_M_65 (Or.inl rfl) rfl rfl heq d_M_unread_82 (fun h1 H locs hR hLo heq => ?_)
  refine lv_aload_n hx hb d_M_unread_85 rfl (lv_at hl 0 rfl) ?_
  refine x_gI hc hR fl_M_65 heq d_M_unread_86 (fun v9 heq => ?_)
  refine lv_if_le (tgt := 93) hx hb d_M_unread_89 rfl (fun hq => ?_) (fun hq => ?_)
  · rw [if_pos hq] at heq
    refine lv_aload_n hx hb d_M_unread_93 rfl (lv_at hl 0 rfl) ?_
    refine x_gA hc hR fl_M_38 heq d_M_unread_94 (fun v10 heq => ?_)
    refine lv_bipush (v := 64) hx hb d_M_unread_97 (by decide) ?_
    refine lv_iload_n hx hb d_M_unread_99 rfl (lv_at hl 2 rfl) ?_
    refine lv_imul hx hb d_M_unread_100 ?_
    refine lv_aload_n hx hb d_M_unread_101 rfl (lv_at hl 0 rfl) ?_
    refine x_gA hc hR fl_M_41 heq d_M_unread_102 (fun v11 heq => ?_)
    refine lv_iload_n hx hb d_M_unread_105 rfl (lv_at hl 2 rfl) ?_
    refine x_aI hc hR heq d_M_unread_106 (fun v12 heq => ?_)
    refine lv_iadd hx hb d_M_unread_107 ?_
    refine lv_iload_n hx hb d_M_unread_108 rfl (lv_at hl 1 rfl) ?_
    refine x_sI hc hR hLo heq d_M_unread_109 (fun h2 H locs hR hLo heq => ?_)
    refine lv_aload_n hx hb d_M_unread_110 rfl (lv_at hl 0 rfl) ?_
    refine x_gA hc hR fl_M_41 heq d_M_unread_111 (fun v13 heq => ?_)
    refine lv_iload_n hx hb d_M_unread_114 rfl (lv_at hl 2 rfl) ?_
    refine lv_aload_n hx hb d_M_unread_115 rfl (lv_at hl 0 rfl) ?_
    refine x_gA hc hR fl_M_41 heq d_M_unread_116 (fun v14 heq => ?_)
    refine lv_iload_n hx hb d_M_unread_119 rfl (lv_at hl 2 rfl) ?_
    refine x_aI hc hR heq d_M_unread_120 (fun v15 heq => ?_)
    refine lv_iconst (v := 1) hx hb d_M_unread_121 (by decide) ?_
    refine lv_iadd hx hb d_M_unread_122 ?_
    refine x_sI hc hR hLo heq d_M_unread_123 (fun h3 H locs hR hLo heq => ?_)
    exact x_vret hc hR hLo ⟨by omega, by omega⟩ heq d_M_unread_124
  · rw [if_neg hq] at heq
    exact x_vret hc hR hLo ⟨by omega, by omega⟩ heq d_M_unread_92
set_option maxRecDepth 100000 in
set_option maxHeartbeats 4000000 in
theorem k_M_unread_b50 {p : Program} {l : Launch} {e : Env} {s : State} {m : MethodId} {args : Array Value} {below : List Frame} {meth : Method} {c : Code} {s0 : State} {A0 : Array Value} {G : Gx_t} {r : Outcome × Hs_t} {rm : Room} (hc : Cx_t p s m meth c s0 A0 l G y_M_unread b_M_unread 4 none []) (hrm : rm_Ok 0 0 0 0 rm) : ∀ (t0 : Nat) (x1 : Int32) (x2 : Int32) (sv0 : Nat) (h0 : Hs_t) (H : Heap) (locs : List Loc) (ls : Array Slot), Rp_h G s0.heap h0 H → Lo_k s0 locs → lv_has ls 4 [(0, .ref t0), (1, .int x1), (2, .int x2)] → f_M_unread_b50 t0 x1 x2 sv0 h0 = some r → W p l e rm s m args below meth c H locs 0 0 (xq_MQ G s0 below r s rm.cells rm.slots) (F0 m 50 ls [.ref sv0]) := by
  have hx := hc.x
  have hb := hc.b
  obtain ⟨hm1, hm2, hm3, hm4⟩ := id hrm
  intro t0 x1 x2 sv0 h0 H locs ls hR hLo hl heq
  unfold f_M_unread_b50 at heq
  refine lv_iconst (v := 2) hx hb d_M_unread_50 (by decide) ?_
  refine lv_goto (tgt := 82) hx hb d_M_unread_51 rfl ?_
  refine W.widen (k := 0) (n := 0) (by omega) (by omega) ?_
  exact k_M_unread_b82 hc hrm t0 x1 x2 2 sv0 h0 H locs ls hR hLo (lv_sub hl [0, 1, 2] rfl) heq
set_option maxRecDepth 100000 in
set_option maxHeartbeats 4000000 in
theorem k_M_unread_b26 {p : Program} {l : Launch} {e : Env} {s : State} {m : MethodId} {args : Array Value} {below : List Frame} {meth : Method} {c : Code} {s0 : State} {A0 : Array Value} {G : Gx_t} {r : Outcome × Hs_t} {rm : Room} (hc : Cx_t p s m meth c s0 A0 l G y_M_unread b_M_unread 4 none []) (hrm : rm_Ok 0 0 0 0 rm) : ∀ (t0 : Nat) (x1 : Int32) (x2 : Int32) (sv0 : Int32) (h0 : Hs_t) (H : Heap) (locs : List Loc) (ls : Array Slot), Rp_h G s0.heap h0 H → Lo_k s0 locs → lv_has ls 4 [(0, .ref t0), (1, .int x1), (2, .int x2)] → f_M_unread_b26 t0 x1 x2 sv0 h0 = some r → W p l e rm s m args below meth c H locs 0 0 (xq_MQ G s0 below r s rm.cells rm.slots) (F0 m 26 ls [.int sv0]) := by
  have hx := hc.x
  have hb := hc.b
  obtain ⟨hm1, hm2, hm3, hm4⟩ := id hrm
  intro t0 x1 x2 sv0 h0 H locs ls hR hLo hl heq
  unfold f_M_unread_b26 at heq
  refine lv_istore_n (lv' := [(3, .int sv0), (0, .ref t0), (1, .int x1), (2, .int x2)]) hx hb d_M_unread_26 rfl hl (by decide) rfl (fun ls hl => ?_)
  refine lv_aload_n hx hb d_M_unread_27 rfl (lv_at hl 1 rfl) ?_
  refine lv_aload_n hx hb d_M_unread_28 rfl (lv_at hl 1 rfl) ?_
  refine x_gI hc hR fl_M_75 heq d_M_unread_29 (fun v4 heq => ?_)
  refine lv_if_eq (tgt := 39) hx hb d_M_unread_32 rfl (fun hq => ?_) (fun hq => ?_)
  · rw [if_pos hq] at heq
    refine lv_iload_n hx hb d_M_unread_39 rfl (lv_at hl 2 rfl) ?_
    refine lv_if_lt (tgt := 50) hx hb d_M_unread_40 rfl (fun hq => ?_) (fun hq => ?_)
    · rw [if_pos hq] at heq
      refine W.widen (k := 0) (n := 0) (by omega) (by omega) ?_
      exact k_M_unread_b50 hc hrm t0 x1 x2 t0 h0 H locs ls hR hLo (lv_sub hl [1, 2, 3] rfl) heq
    · rw [if_neg hq] at heq
      refine lv_iload_n hx hb d_M_unread_43 rfl (lv_at hl 2 rfl) ?_
      refine lv_sipush (v := 255) hx hb d_M_unread_44 (by decide) ?_
      refine lv_icmp_le (tgt := 54) hx hb d_M_unread_47 rfl (fun hq => ?_) (fun hq => ?_)
      · rw [if_pos hq] at heq
        refine lv_iload_n hx hb d_M_unread_54 rfl (lv_at hl 0 rfl) ?_
        refine lv_if_ne (tgt := 62) hx hb d_M_unread_55 rfl (fun hq => ?_) (fun hq => ?_)
        · rw [if_neg hq] at heq
          refine lv_aload_n hx hb d_M_unread_62 rfl (lv_at hl 1 rfl) ?_
          refine x_gA hc hR fl_M_41 heq d_M_unread_63 (fun v5 heq => ?_)
          refine lv_iload_n hx hb d_M_unread_66 rfl (lv_at hl 3 rfl) ?_
          refine x_aI hc hR heq d_M_unread_67 (fun v6 heq => ?_)
          refine lv_aload_n hx hb d_M_unread_68 rfl (lv_at hl 1 rfl) ?_
          refine x_gA hc hR fl_M_23 heq d_M_unread_69 (fun v7 heq => ?_)
          refine lv_iload_n hx hb d_M_unread_72 rfl (lv_at hl 3 rfl) ?_
          refine x_aI hc hR heq d_M_unread_73 (fun v8 heq => ?_)
          refine lv_icmp_ne (tgt := 81) hx hb d_M_unread_74 rfl (fun hq => ?_) (fun hq => ?_)
          · rw [if_neg hq] at heq
            refine lv_iconst (v := 0) hx hb d_M_unread_81 (by decide) ?_
            refine W.widen (k := 0) (n := 0) (by omega) (by omega) ?_
            exact k_M_unread_b82 hc hrm t0 x1 x2 0 t0 h0 H locs ls hR hLo (lv_sub hl [1, 2, 3] rfl) heq
          · rw [if_pos hq] at heq
            refine lv_iconst (v := 1) hx hb d_M_unread_77 (by decide) ?_
            refine lv_goto (tgt := 82) hx hb d_M_unread_78 rfl ?_
            refine W.widen (k := 0) (n := 0) (by omega) (by omega) ?_
            exact k_M_unread_b82 hc hrm t0 x1 x2 1 t0 h0 H locs ls hR hLo (lv_sub hl [1, 2, 3] rfl) heq
        · rw [if_pos hq] at heq
          refine lv_iconst (v := 3) hx hb d_M_unread_58 (by decide) ?_
          refine lv_goto (tgt := 82) hx hb d_M_unread_59 rfl ?_
          refine W.widen (k := 0) (n := 0) (by omega) (by omega) ?_
          exact k_M_unread_b82 hc hrm t0 x1 x2 3 t0 h0 H locs ls hR hLo (lv_sub hl [1, 2, 3] rfl) heq
      · rw [if_neg hq] at heq
        refine W.widen (k := 0) (n := 0) (by omega) (by omega) ?_
        exact k_M_unread_b50 hc hrm t0 x1 x2 t0 h0 H locs ls hR hLo (lv_sub hl [1, 2, 3] rfl) heq
  · rw [if_neg hq] at heq
    refine lv_iconst (v := 1) hx hb d_M_unread_35 (by decide) ?_
    refine lv_goto (tgt := 82) hx hb d_M_unread_36 rfl ?_
    refine W.widen (k := 0) (n := 0) (by omega) (by omega) ?_
    exact k_M_unread_b82 hc hrm t0 x1 x2 1 t0 h0 H locs ls hR hLo (lv_sub hl [1, 2, 3] rfl) heq
set_option maxRecDepth 100000 in
set_option maxHeartbeats 4000000 in
theorem k_M_unread_b25 {p : Program} {l : Launch} {e : Env} {s : State} {m : MethodId} {args : Array Value} {below : List Frame} {meth : Method} {c : Code} {s0 : State} {A0 : Array Value} {G : Gx_t} {r : Outcome × Hs_t} {rm : Room} (hc : Cx_t p s m meth c s0 A0 l G y_M_unread b_M_unread 4 none []) (hrm : rm_Ok 0 0 0 0 rm) : ∀ (t0 : Nat) (x1 : Int32) (x2 : Int32) (h0 : Hs_t) (H : Heap) (locs : List Loc) (ls : Array Slot), Rp_h G s0.heap h0 H → Lo_k s0 locs → lv_has ls 4 [(0, .ref t0), (1, .int x1), (2, .int x2)] → f_M_unread_b25 t0 x1 x2 h0 = some r → W p l e rm s m args below meth c H locs 0 0 (xq_MQ G s0 below r s rm.cells rm.slots) (F0 m 25 ls []) := by
  have hx := hc.x
  have hb := hc.b
  obtain ⟨hm1, hm2, hm3, hm4⟩ := id hrm
  intro t0 x1 x2 h0 H locs ls hR hLo hl heq
  unfold f_M_unread_b25 at heq
  refine lv_iconst (v := 0) hx hb d_M_unread_25 (by decide) ?_
  refine W.widen (k := 0) (n := 0) (by omega) (by omega) ?_
  exact k_M_unread_b26 hc hrm t0 x1 x2 0 h0 H locs ls hR hLo (lv_sub hl [0, 1, 2] rfl) heq
set_option maxRecDepth 100000 in
set_option maxHeartbeats 4000000 in
theorem c_M_unread {l : Launch} {s0 : State} {A0 : Array Value} {G : Gx_t} (hG : G_0 l s0 A0 G) (rm : Room) (hrm : rm_Ok 0 0 0 0 rm) (t0 : Nat) (x1 : Int32) (h0 : Hs_t) (r : Outcome × Hs_t) (heq : f_M_unread t0 x1 h0 = some r) : M_X G s0 l y_M_unread (.code y_M_unread b_M_unread 4 none) rm [.ref t0, .int x1] h0 r := by
  refine M_X.of (by decide) hG (fun p e s m below meth c H hc hR => ?_)
  have hx := hc.x
  have hb := hc.b
  obtain ⟨hm1, hm2, hm3, hm4⟩ := id hrm
  have hLo : Lo_k s0 [] := fun _ hq => absurd hq List.not_mem_nil
  have hl := lv_entry ([.ref t0, .int x1]) (n := 4) (Nat.le_of_ble_eq_true rfl)
  rw [lg_entry_eq]
  generalize (lg_sl ([.ref t0, .int x1]) ++ List.replicate (4 - (lg_sl ([.ref t0, .int x1])).length) Slot.unset).toArray = ls at hl ⊢
  have hl : lv_has ls 4 [(0, .ref t0), (1, .int x1)] := hl
  generalize hle : ([] : List Loc) = locs at hLo ⊢
  unfold f_M_unread at heq
  refine lv_aload_n hx hb d_M_unread_0 rfl (lv_at hl 0 rfl) ?_
  refine x_gI hc hR fl_M_79 heq d_M_unread_1 (fun v1 heq => ?_)
  refine lv_iconst (v := 1) hx hb d_M_unread_4 (by decide) ?_
  refine lv_isub hx hb d_M_unread_5 ?_
  refine lv_istore_n (lv' := [(2, .int (v1 - 1)), (0, .ref t0), (1, .int x1)]) hx hb d_M_unread_6 rfl hl (by decide) rfl (fun ls hl => ?_)
  refine lv_iload_n hx hb d_M_unread_7 rfl (lv_at hl 0 rfl) ?_
  refine lv_if_lt (tgt := 25) hx hb d_M_unread_8 rfl (fun hq => ?_) (fun hq => ?_)
  · rw [if_pos hq] at heq
    refine W.widen (k := 0) (n := 0) (by omega) (by omega) ?_
    exact k_M_unread_b25 hc hrm t0 x1 (v1 - 1) h0 H locs ls hR hLo (lv_sub hl [1, 2, 0] rfl) heq
  · rw [if_neg hq] at heq
    refine lv_aload_n hx hb d_M_unread_11 rfl (lv_at hl 1 rfl) ?_
    refine x_gA hc hR fl_M_20 heq d_M_unread_12 (fun v2 heq => ?_)
    refine lv_iload_n hx hb d_M_unread_15 rfl (lv_at hl 0 rfl) ?_
    refine x_aI hc hR heq d_M_unread_16 (fun v3 heq => ?_)
    refine lv_iconst (v := 2) hx hb d_M_unread_17 (by decide) ?_
    refine lv_icmp_ne (tgt := 25) hx hb d_M_unread_18 rfl (fun hq => ?_) (fun hq => ?_)
    · rw [if_neg hq] at heq
      refine W.widen (k := 0) (n := 0) (by omega) (by omega) ?_
      exact k_M_unread_b25 hc hrm t0 x1 (v1 - 1) h0 H locs ls hR hLo (lv_sub hl [1, 2, 0] rfl) heq
    · rw [if_pos hq] at heq
      refine lv_iconst (v := 1) hx hb d_M_unread_21 (by decide) ?_
      refine lv_goto (tgt := 26) hx hb d_M_unread_22 rfl ?_
      refine W.widen (k := 0) (n := 0) (by omega) (by omega) ?_
      exact k_M_unread_b26 hc hrm t0 x1 (v1 - 1) 1 h0 H locs ls hR hLo (lv_sub hl [1, 2, 0] rfl) heq
def rm_M_unread : Room := { frames := 0, cells := 0, slots := 0, locals := 0 }
theorem rk_M_unread : rm_Ok 0 0 0 0 rm_M_unread := ⟨Nat.le_refl _, Nat.le_refl _, Nat.le_refl _, Nat.le_refl _⟩
def f_M_available_b84 (r12 : Nat → Int32 → Int32 → Hs_t → Rs_t) (t0 : Nat) (x1 : Int32) (x2 : Int32) (h0 : Hs_t) : Rs_t := r12 t0 x1 (x2 + 1) h0
def f_M_available_b57 (r12 : Nat → Int32 → Int32 → Hs_t → Rs_t) (t0 : Nat) (x1 : Int32) (x2 : Int32) (h0 : Hs_t) : Rs_t := (fd_A [8] 7 h0 t0).bind fun v10 => (ar_I h0 v10 x2).bind fun v11 => if v11 = 3 then ((fd_A [8] 9 h0 t0).bind fun v12 => (ar_I h0 v12 x2).bind fun v13 => if x1 ≤ v13 then (f_M_available_b84 r12 t0 x1 x2 h0) else ((fd_A [8] 9 h0 t0).bind fun v14 => (ar_I h0 v14 x2).bind fun v15 => f_M_available_b84 r12 t0 v15 x2 h0)) else (f_M_available_b84 r12 t0 x1 x2 h0)
def f_M_available_b38 (r12 : Nat → Int32 → Int32 → Hs_t → Rs_t) (t0 : Nat) (x1 : Int32) (x2 : Int32) (h0 : Hs_t) : Rs_t := (fd_A [8] 7 h0 t0).bind fun v6 => (ar_I h0 v6 x2).bind fun v7 => if v7 = 2 then ((fd_A [8] 14 h0 t0).bind fun v8 => (ar_I h0 v8 x2).bind fun v9 => f_M_available_b57 r12 t0 (x1 + v9) x2 h0) else (f_M_available_b57 r12 t0 x1 x2 h0)
def f_M_available_b12 : Nat → Nat → Int32 → Int32 → Hs_t → Rs_t
  | 0, _, _, _, _ => none
  | n + 1, t0, x1, x2, h0 => (fd_I [8] 6 h0 t0).bind fun v2 => if v2 ≤ x2 then (re_I x1 h0) else ((fd_A [8] 7 h0 t0).bind fun v3 => (ar_I h0 v3 x2).bind fun v4 => if v4 = 1 then ((ck_T [8] h0 t0).bind fun _ => bd_I (f_M_toGive t0 x2 h0) (fun v5 h3 => f_M_available_b38 (f_M_available_b12 n) t0 (x1 + v5) x2 h3)) else (f_M_available_b38 (f_M_available_b12 n) t0 x1 x2 h0))
def f_M_available (t0 : Nat) (h0 : Hs_t) : Rs_t := (pt_V [8] 0 h0 t0 (.int 0)).bind fun h1 => (ck_T [8] h1 t0).bind fun _ => bd_I (f_M_portionLeft t0 h1) (fun v1 h2 => f_M_available_b12 fu_N t0 v1 0 h2)
set_option maxRecDepth 100000 in
set_option maxHeartbeats 4000000 in
theorem k_M_available_b84 {p : Program} {l : Launch} {e : Env} {s : State} {m : MethodId} {args : Array Value} {below : List Frame} {meth : Method} {c : Code} {s0 : State} {A0 : Array Value} {G : Gx_t} {r : Outcome × Hs_t} {rm : Room} (r12 : Nat → Int32 → Int32 → Hs_t → Rs_t) (hc : Cx_t p s m meth c s0 A0 l G y_M_available b_M_available 3 (some .int) []) (hrm : rm_Ok 0 0 1 21 rm) (hr12 : ∀ (t0 : Nat) (x1 : Int32) (x2 : Int32) (h0 : Hs_t) (H : Heap) (locs : List Loc) (ls : Array Slot), Rp_h G s0.heap h0 H → Lo_k s0 locs → lv_has ls 3 [(0, .ref t0), (1, .int x1), (2, .int x2)] → r12 t0 x1 x2 h0 = some r → W p l e rm s m args below meth c H locs 0 0 (xq_MQ G s0 below r s rm.cells rm.slots) (F0 m 12 ls [])) : ∀ (t0 : Nat) (x1 : Int32) (x2 : Int32) (h0 : Hs_t) (H : Heap) (locs : List Loc) (ls : Array Slot), Rp_h G s0.heap h0 H → Lo_k s0 locs → lv_has ls 3 [(0, .ref t0), (1, .int x1), (2, .int x2)] → f_M_available_b84 r12 t0 x1 x2 h0 = some r → W p l e rm s m args below meth c H locs 0 0 (xq_MQ G s0 below r s rm.cells rm.slots) (F0 m 84 ls []) := by
  have hx := hc.x
  have hb := hc.b
  obtain ⟨hm1, hm2, hm3, hm4⟩ := id hrm
  intro t0 x1 x2 h0 H locs ls hR hLo hl heq
  unfold f_M_available_b84 at heq
  refine lv_iinc (k := 2) (v := (x2 + 1)) (lv' := [(2, .int (x2 + 1)), (0, .ref t0), (1, .int x1)]) hx hb d_M_available_84 hl rfl rfl (by decide) rfl (fun ls hl => ?_)
  refine lv_goto (tgt := 12) hx hb d_M_available_87 rfl ?_
  refine W.widen (k := 0) (n := 0) (by omega) (by omega) ?_
  exact hr12 t0 x1 (x2 + 1) h0 H locs ls hR hLo (lv_sub hl [1, 2, 0] rfl) heq
set_option maxRecDepth 100000 in
set_option maxHeartbeats 4000000 in
theorem k_M_available_b57 {p : Program} {l : Launch} {e : Env} {s : State} {m : MethodId} {args : Array Value} {below : List Frame} {meth : Method} {c : Code} {s0 : State} {A0 : Array Value} {G : Gx_t} {r : Outcome × Hs_t} {rm : Room} (r12 : Nat → Int32 → Int32 → Hs_t → Rs_t) (hc : Cx_t p s m meth c s0 A0 l G y_M_available b_M_available 3 (some .int) []) (hrm : rm_Ok 0 0 1 21 rm) (hr12 : ∀ (t0 : Nat) (x1 : Int32) (x2 : Int32) (h0 : Hs_t) (H : Heap) (locs : List Loc) (ls : Array Slot), Rp_h G s0.heap h0 H → Lo_k s0 locs → lv_has ls 3 [(0, .ref t0), (1, .int x1), (2, .int x2)] → r12 t0 x1 x2 h0 = some r → W p l e rm s m args below meth c H locs 0 0 (xq_MQ G s0 below r s rm.cells rm.slots) (F0 m 12 ls [])) : ∀ (t0 : Nat) (x1 : Int32) (x2 : Int32) (h0 : Hs_t) (H : Heap) (locs : List Loc) (ls : Array Slot), Rp_h G s0.heap h0 H → Lo_k s0 locs → lv_has ls 3 [(0, .ref t0), (1, .int x1), (2, .int x2)] → f_M_available_b57 r12 t0 x1 x2 h0 = some r → W p l e rm s m args below meth c H locs 0 0 (xq_MQ G s0 below r s rm.cells rm.slots) (F0 m 57 ls []) := by
  have hx := hc.x
  have hb := hc.b
  obtain ⟨hm1, hm2, hm3, hm4⟩ := id hrm
  intro t0 x1 x2 h0 H locs ls hR hLo hl heq
  unfold f_M_available_b57 at heq
  refine lv_aload_n hx hb d_M_available_57 rfl (lv_at hl 0 rfl) ?_
  refine x_gA hc hR fl_M_20 heq d_M_available_58 (fun v10 heq => ?_)
  refine lv_iload_n hx hb d_M_available_61 rfl (lv_at hl 2 rfl) ?_
  refine x_aI hc hR heq d_M_available_62 (fun v11 heq => ?_)
  refine lv_iconst (v := 3) hx hb d_M_available_63 (by decide) ?_
  refine lv_icmp_ne (tgt := 84) hx hb d_M_available_64 rfl (fun hq => ?_) (fun hq => ?_)
  · rw [if_neg hq] at heq
    refine W.widen (k := 0) (n := 0) (by omega) (by omega) ?_
    exact k_M_available_b84 _ hc hrm hr12 t0 x1 x2 h0 H locs ls hR hLo (lv_sub hl [0, 1, 2] rfl) heq
  · rw [if_pos hq] at heq
    refine lv_aload_n hx hb d_M_available_67 rfl (lv_at hl 0 rfl) ?_
    refine x_gA hc hR fl_M_26 heq d_M_available_68 (fun v12 heq => ?_)
    refine lv_iload_n hx hb d_M_available_71 rfl (lv_at hl 2 rfl) ?_
    refine x_aI hc hR heq d_M_available_72 (fun v13 heq => ?_)
    refine lv_iload_n hx hb d_M_available_73 rfl (lv_at hl 1 rfl) ?_
    refine lv_icmp_ge (tgt := 84) hx hb d_M_available_74 rfl (fun hq => ?_) (fun hq => ?_)
    · rw [if_pos hq] at heq
      refine W.widen (k := 0) (n := 0) (by omega) (by omega) ?_
      exact k_M_available_b84 _ hc hrm hr12 t0 x1 x2 h0 H locs ls hR hLo (lv_sub hl [0, 1, 2] rfl) heq
    · rw [if_neg hq] at heq
      refine lv_aload_n hx hb d_M_available_77 rfl (lv_at hl 0 rfl) ?_
      refine x_gA hc hR fl_M_26 heq d_M_available_78 (fun v14 heq => ?_)
      refine lv_iload_n hx hb d_M_available_81 rfl (lv_at hl 2 rfl) ?_
      refine x_aI hc hR heq d_M_available_82 (fun v15 heq => ?_)
      refine lv_istore_n (lv' := [(1, .int v15), (0, .ref t0), (2, .int x2)]) hx hb d_M_available_83 rfl hl (by decide) rfl (fun ls hl => ?_)
      refine W.widen (k := 0) (n := 0) (by omega) (by omega) ?_
      exact k_M_available_b84 _ hc hrm hr12 t0 v15 x2 h0 H locs ls hR hLo (lv_sub hl [1, 0, 2] rfl) heq
set_option maxRecDepth 100000 in
set_option maxHeartbeats 4000000 in
theorem k_M_available_b38 {p : Program} {l : Launch} {e : Env} {s : State} {m : MethodId} {args : Array Value} {below : List Frame} {meth : Method} {c : Code} {s0 : State} {A0 : Array Value} {G : Gx_t} {r : Outcome × Hs_t} {rm : Room} (r12 : Nat → Int32 → Int32 → Hs_t → Rs_t) (hc : Cx_t p s m meth c s0 A0 l G y_M_available b_M_available 3 (some .int) []) (hrm : rm_Ok 0 0 1 21 rm) (hr12 : ∀ (t0 : Nat) (x1 : Int32) (x2 : Int32) (h0 : Hs_t) (H : Heap) (locs : List Loc) (ls : Array Slot), Rp_h G s0.heap h0 H → Lo_k s0 locs → lv_has ls 3 [(0, .ref t0), (1, .int x1), (2, .int x2)] → r12 t0 x1 x2 h0 = some r → W p l e rm s m args below meth c H locs 0 0 (xq_MQ G s0 below r s rm.cells rm.slots) (F0 m 12 ls [])) : ∀ (t0 : Nat) (x1 : Int32) (x2 : Int32) (h0 : Hs_t) (H : Heap) (locs : List Loc) (ls : Array Slot), Rp_h G s0.heap h0 H → Lo_k s0 locs → lv_has ls 3 [(0, .ref t0), (1, .int x1), (2, .int x2)] → f_M_available_b38 r12 t0 x1 x2 h0 = some r → W p l e rm s m args below meth c H locs 0 0 (xq_MQ G s0 below r s rm.cells rm.slots) (F0 m 38 ls []) := by
  have hx := hc.x
  have hb := hc.b
  obtain ⟨hm1, hm2, hm3, hm4⟩ := id hrm
  intro t0 x1 x2 h0 H locs ls hR hLo hl heq
  unfold f_M_available_b38 at heq
  refine lv_aload_n hx hb d_M_available_38 rfl (lv_at hl 0 rfl) ?_
  refine x_gA hc hR fl_M_20 heq d_M_available_39 (fun v6 heq => ?_)
  refine lv_iload_n hx hb d_M_available_42 rfl (lv_at hl 2 rfl) ?_
  refine x_aI hc hR heq d_M_available_43 (fun v7 heq => ?_)
  refine lv_iconst (v := 2) hx hb d_M_available_44 (by decide) ?_
  refine lv_icmp_ne (tgt := 57) hx hb d_M_available_45 rfl (fun hq => ?_) (fun hq => ?_)
  · rw [if_neg hq] at heq
    refine W.widen (k := 0) (n := 0) (by omega) (by omega) ?_
    exact k_M_available_b57 _ hc hrm hr12 t0 x1 x2 h0 H locs ls hR hLo (lv_sub hl [0, 1, 2] rfl) heq
  · rw [if_pos hq] at heq
    refine lv_iload_n hx hb d_M_available_48 rfl (lv_at hl 1 rfl) ?_
    refine lv_aload_n hx hb d_M_available_49 rfl (lv_at hl 0 rfl) ?_
    refine x_gA hc hR fl_M_41 heq d_M_available_50 (fun v8 heq => ?_)
    refine lv_iload_n hx hb d_M_available_53 rfl (lv_at hl 2 rfl) ?_
    refine x_aI hc hR heq d_M_available_54 (fun v9 heq => ?_)
    refine lv_iadd hx hb d_M_available_55 ?_
    refine lv_istore_n (lv' := [(1, .int (x1 + v9)), (0, .ref t0), (2, .int x2)]) hx hb d_M_available_56 rfl hl (by decide) rfl (fun ls hl => ?_)
    refine W.widen (k := 0) (n := 0) (by omega) (by omega) ?_
    exact k_M_available_b57 _ hc hrm hr12 t0 (x1 + v9) x2 h0 H locs ls hR hLo (lv_sub hl [1, 0, 2] rfl) heq
set_option maxRecDepth 100000 in
set_option maxHeartbeats 4000000 in
theorem k_M_available_b12 {p : Program} {l : Launch} {e : Env} {s : State} {m : MethodId} {args : Array Value} {below : List Frame} {meth : Method} {c : Code} {s0 : State} {A0 : Array Value} {G : Gx_t} {r : Outcome × Hs_t} {rm : Room} (hc : Cx_t p s m meth c s0 A0 l G y_M_available b_M_available 3 (some .int) []) (hrm : rm_Ok 0 0 1 21 rm) : ∀ (n : Nat) (t0 : Nat) (x1 : Int32) (x2 : Int32) (h0 : Hs_t) (H : Heap) (locs : List Loc) (ls : Array Slot), Rp_h G s0.heap h0 H → Lo_k s0 locs → lv_has ls 3 [(0, .ref t0), (1, .int x1), (2, .int x2)] → f_M_available_b12 n t0 x1 x2 h0 = some r → W p l e rm s m args below meth c H locs 0 0 (xq_MQ G s0 below r s rm.cells rm.slots) (F0 m 12 ls []) := by
  have hx := hc.x
  have hb := hc.b
  obtain ⟨hm1, hm2, hm3, hm4⟩ := id hrm
  intro n
  induction n with
  | zero =>
    intro t0 x1 x2 h0 H locs ls hR hLo hl heq
    unfold f_M_available_b12 at heq
    cases heq
  | succ n hr12 =>
    intro t0 x1 x2 h0 H locs ls hR hLo hl heq
    unfold f_M_available_b12 at heq
    refine lv_iload_n hx hb d_M_available_12 rfl (lv_at hl 2 rfl) ?_
    refine lv_aload_n hx hb d_M_available_13 rfl (lv_at hl 0 rfl) ?_
    refine x_gI hc hR fl_M_79 heq d_M_available_14 (fun v2 heq => ?_)
    refine lv_icmp_ge (tgt := 90) hx hb d_M_available_17 rfl (fun hq => ?_) (fun hq => ?_)
    · rw [if_pos hq] at heq
      refine lv_iload_n hx hb d_M_available_90 rfl (lv_at hl 1 rfl) ?_
      exact x_iret hc hR hLo ⟨by omega, by omega⟩ heq d_M_available_91
    · rw [if_neg hq] at heq
      refine lv_aload_n hx hb d_M_available_20 rfl (lv_at hl 0 rfl) ?_
      refine x_gA hc hR fl_M_20 heq d_M_available_21 (fun v3 heq => ?_)
      refine lv_iload_n hx hb d_M_available_24 rfl (lv_at hl 2 rfl) ?_
      refine x_aI hc hR heq d_M_available_25 (fun v4 heq => ?_)
      refine lv_iconst (v := 1) hx hb d_M_available_26 (by decide) ?_
      refine lv_icmp_ne (tgt := 38) hx hb d_M_available_27 rfl (fun hq => ?_) (fun hq => ?_)
      · rw [if_neg hq] at heq
        refine W.widen (k := 0) (n := 0) (by omega) (by omega) ?_
        exact k_M_available_b38 _ hc hrm hr12 t0 x1 x2 h0 H locs ls hR hLo (lv_sub hl [0, 1, 2] rfl) heq
      · rw [if_pos hq] at heq
        refine lv_iload_n hx hb d_M_available_30 rfl (lv_at hl 1 rfl) ?_
        refine lv_aload_n hx hb d_M_available_31 rfl (lv_at hl 0 rfl) ?_
        refine lv_iload_n hx hb d_M_available_32 rfl (lv_at hl 2 rfl) ?_
        refine x_ck heq (fun tt fs ha ht heq => ?_)
        obtain rfl : tt = 8 := by simpa using ht
        refine x_bI (mc := 0) (ms := 0) (st := [.int x1]) hc hLo heq ⟨by omega, by omega⟩ (fun r9 h9 => x_runV hc (c_M_toGive hc.g rm_M_toGive rk_M_toGive _ _ _ _ h9) md_M_toGive hR ha rfl wd_833 wd_835 sp_14 hl.1 ml_M_toGive rfl (Nat.le_of_ble_eq_true rfl) d_M_available_33 ⟨by show 0 + 1 ≤ _; omega, by show 8 + (2 + 11) + (0) ≤ _; omega⟩ ⟨by show 0 + 0 ≤ _; omega, by show 0 + 0 ≤ _; omega⟩) (fun v5 h3 H locs hR hLo heq => ?_)
        refine lv_iadd hx hb d_M_available_36 ?_
        refine lv_istore_n (lv' := [(1, .int (x1 + v5)), (0, .ref t0), (2, .int x2)]) hx hb d_M_available_37 rfl hl (by decide) rfl (fun ls hl => ?_)
        refine W.widen (k := 0) (n := 0) (by omega) (by omega) ?_
        exact k_M_available_b38 _ hc hrm hr12 t0 (x1 + v5) x2 h3 H locs ls hR hLo (lv_sub hl [1, 0, 2] rfl) heq
set_option maxRecDepth 100000 in
set_option maxHeartbeats 4000000 in
theorem c_M_available {l : Launch} {s0 : State} {A0 : Array Value} {G : Gx_t} (hG : G_0 l s0 A0 G) (rm : Room) (hrm : rm_Ok 0 0 1 21 rm) (t0 : Nat) (h0 : Hs_t) (r : Outcome × Hs_t) (heq : f_M_available t0 h0 = some r) : M_X G s0 l y_M_available (.code y_M_available b_M_available 3 (some .int)) rm [.ref t0] h0 r := by
  refine M_X.of (by decide) hG (fun p e s m below meth c H hc hR => ?_)
  have hx := hc.x
  have hb := hc.b
  obtain ⟨hm1, hm2, hm3, hm4⟩ := id hrm
  have hLo : Lo_k s0 [] := fun _ hq => absurd hq List.not_mem_nil
  have hl := lv_entry ([.ref t0]) (n := 3) (Nat.le_of_ble_eq_true rfl)
  rw [lg_entry_eq]
  generalize (lg_sl ([.ref t0]) ++ List.replicate (3 - (lg_sl ([.ref t0])).length) Slot.unset).toArray = ls at hl ⊢
  have hl : lv_has ls 3 [(0, .ref t0)] := hl
  generalize hle : ([] : List Loc) = locs at hLo ⊢
  unfold f_M_available at heq
  refine lv_aload_n hx hb d_M_available_0 rfl (lv_at hl 0 rfl) ?_
  refine lv_iconst (v := 0) hx hb d_M_available_1 (by decide) ?_
  refine x_pV hc hR hLo fl_M_65 (Or.inl rfl) rfl rfl heq d_M_available_2 (fun h1 H locs hR hLo heq => ?_)
  refine lv_aload_n hx hb d_M_available_5 rfl (lv_at hl 0 rfl) ?_
  refine x_ck heq (fun tt fs ha ht heq => ?_)
  obtain rfl : tt = 8 := by simpa using ht
  refine x_bI (mc := 0) (ms := 0) (st := []) hc hLo heq ⟨by omega, by omega⟩ (fun r9 h9 => x_runV hc (c_M_portionLeft hc.g rm_M_portionLeft rk_M_portionLeft _ _ _ h9) md_M_portionLeft hR ha rfl wd_853 wd_855 sp_19 hl.1 ml_M_portionLeft rfl (Nat.le_of_ble_eq_true rfl) d_M_available_6 ⟨by show 0 + 1 ≤ _; omega, by show 8 + (2 + 11) + (0) ≤ _; omega⟩ ⟨by show 0 + 0 ≤ _; omega, by show 0 + 0 ≤ _; omega⟩) (fun v1 h2 H locs hR hLo heq => ?_)
  refine lv_istore_n (lv' := [(1, .int v1), (0, .ref t0)]) hx hb d_M_available_9 rfl hl (by decide) rfl (fun ls hl => ?_)
  refine lv_iconst (v := 0) hx hb d_M_available_10 (by decide) ?_
  refine lv_istore_n (lv' := [(2, .int 0), (1, .int v1), (0, .ref t0)]) hx hb d_M_available_11 rfl hl (by decide) rfl (fun ls hl => ?_)
  refine W.widen (k := 0) (n := 0) (by omega) (by omega) ?_
  exact k_M_available_b12 hc hrm fu_N t0 v1 0 h2 H locs ls hR hLo (lv_sub hl [2, 1, 0] rfl) heq
def rm_M_available : Room := { frames := 1, cells := 0, slots := 0, locals := 21 }
theorem rk_M_available : rm_Ok 0 0 1 21 rm_M_available := ⟨Nat.le_refl _, Nat.le_refl _, Nat.le_refl _, Nat.le_refl _⟩
def f_M_close (t0 : Nat) (h0 : Hs_t) : Rs_t := (pt_V [8] 0 h0 t0 (.int 0)).bind fun h1 => (pt_Z [8] 21 h1 t0 1).bind fun h2 => re_V h2
set_option maxRecDepth 100000 in
set_option maxHeartbeats 4000000 in
theorem c_M_close {l : Launch} {s0 : State} {A0 : Array Value} {G : Gx_t} (hG : G_0 l s0 A0 G) (rm : Room) (hrm : rm_Ok 0 0 0 0 rm) (t0 : Nat) (h0 : Hs_t) (r : Outcome × Hs_t) (heq : f_M_close t0 h0 = some r) : M_X G s0 l y_M_close (.code y_M_close b_M_close 1 none) rm [.ref t0] h0 r := by
  refine M_X.of (by decide) hG (fun p e s m below meth c H hc hR => ?_)
  have hx := hc.x
  have hb := hc.b
  obtain ⟨hm1, hm2, hm3, hm4⟩ := id hrm
  have hLo : Lo_k s0 [] := fun _ hq => absurd hq List.not_mem_nil
  have hl := lv_entry ([.ref t0]) (n := 1) (Nat.le_of_ble_eq_true rfl)
  rw [lg_entry_eq]
  generalize (lg_sl ([.ref t0]) ++ List.replicate (1 - (lg_sl ([.ref t0])).length) Slot.unset).toArray = ls at hl ⊢
  have hl : lv_has ls 1 [(0, .ref t0)] := hl
  generalize hle : ([] : List Loc) = locs at hLo ⊢
  unfold f_M_close at heq
  refine lv_aload_n hx hb d_M_close_0 rfl (lv_at hl 0 rfl) ?_
  refine lv_iconst (v := 0) hx hb d_M_close_1 (by decide) ?_
  refine x_pV hc hR hLo fl_M_65 (Or.inl rfl) rfl rfl heq d_M_close_2 (fun h1 H locs hR hLo heq => ?_)
  refine lv_aload_n hx hb d_M_close_5 rfl (lv_at hl 0 rfl) ?_
  refine lv_iconst (v := 1) hx hb d_M_close_6 (by decide) ?_
  refine x_pZ hc hR hLo fl_M_75 (Or.inl rfl) heq d_M_close_7 (fun h2 H locs hR hLo heq => ?_)
  exact x_vret hc hR hLo ⟨by omega, by omega⟩ heq d_M_close_10
def rm_M_close : Room := { frames := 0, cells := 0, slots := 0, locals := 0 }
theorem rk_M_close : rm_Ok 0 0 0 0 rm_M_close := ⟨Nat.le_refl _, Nat.le_refl _, Nat.le_refl _, Nat.le_refl _⟩
def f_M_about_b27 (h0 : Hs_t) : Rs_t := re_I (-1) h0
def f_M_about_b72 (sv0 : Int32) (h0 : Hs_t) : Rs_t := re_I sv0 h0
def f_M_about (t0 : Nat) (x1 : Int32) (h0 : Hs_t) : Rs_t := (pt_V [8] 0 h0 t0 (.int 0)).bind fun h1 => if x1 = (-1) then ((fd_I [8] 5 h1 t0).bind fun v11 => re_I v11 h1) else (if x1 < 0 then (f_M_about_b27 h1) else ((fd_I [8] 6 h1 t0).bind fun v1 => if x1 < v1 then ((fd_A [8] 7 h1 t0).bind fun v2 => (ar_I h1 v2 x1).bind fun v3 => if v3 = 1 then ((ck_T [8] h1 t0).bind fun _ => bd_I (f_M_toGive t0 x1 h1) (fun v10 h2 => f_M_about_b72 v10 h2)) else ((fd_A [8] 7 h1 t0).bind fun v4 => (ar_I h1 v4 x1).bind fun v5 => if v5 = 2 then ((fd_A [8] 14 h1 t0).bind fun v8 => (ar_I h1 v8 x1).bind fun v9 => f_M_about_b72 v9 h1) else ((fd_A [8] 9 h1 t0).bind fun v6 => (ar_I h1 v6 x1).bind fun v7 => f_M_about_b72 v7 h1))) else (f_M_about_b27 h1)))
set_option maxRecDepth 100000 in
set_option maxHeartbeats 4000000 in
theorem k_M_about_b27 {p : Program} {l : Launch} {e : Env} {s : State} {m : MethodId} {args : Array Value} {below : List Frame} {meth : Method} {c : Code} {s0 : State} {A0 : Array Value} {G : Gx_t} {r : Outcome × Hs_t} {rm : Room} (hc : Cx_t p s m meth c s0 A0 l G y_M_about b_M_about 2 (some .int) []) (hrm : rm_Ok 0 0 1 21 rm) : ∀  (h0 : Hs_t) (H : Heap) (locs : List Loc) (ls : Array Slot), Rp_h G s0.heap h0 H → Lo_k s0 locs → lv_has ls 2 [] → f_M_about_b27  h0 = some r → W p l e rm s m args below meth c H locs 0 0 (xq_MQ G s0 below r s rm.cells rm.slots) (F0 m 27 ls []) := by
  have hx := hc.x
  have hb := hc.b
  obtain ⟨hm1, hm2, hm3, hm4⟩ := id hrm
  intro  h0 H locs ls hR hLo hl heq
  unfold f_M_about_b27 at heq
  refine lv_iconst (v := (-1)) hx hb d_M_about_27 (by decide) ?_
  exact x_iret hc hR hLo ⟨by omega, by omega⟩ heq d_M_about_28
set_option maxRecDepth 100000 in
set_option maxHeartbeats 4000000 in
theorem k_M_about_b72 {p : Program} {l : Launch} {e : Env} {s : State} {m : MethodId} {args : Array Value} {below : List Frame} {meth : Method} {c : Code} {s0 : State} {A0 : Array Value} {G : Gx_t} {r : Outcome × Hs_t} {rm : Room} (hc : Cx_t p s m meth c s0 A0 l G y_M_about b_M_about 2 (some .int) []) (hrm : rm_Ok 0 0 1 21 rm) : ∀ (sv0 : Int32) (h0 : Hs_t) (H : Heap) (locs : List Loc) (ls : Array Slot), Rp_h G s0.heap h0 H → Lo_k s0 locs → lv_has ls 2 [] → f_M_about_b72 sv0 h0 = some r → W p l e rm s m args below meth c H locs 0 0 (xq_MQ G s0 below r s rm.cells rm.slots) (F0 m 72 ls [.int sv0]) := by
  have hx := hc.x
  have hb := hc.b
  obtain ⟨hm1, hm2, hm3, hm4⟩ := id hrm
  intro sv0 h0 H locs ls hR hLo hl heq
  unfold f_M_about_b72 at heq
  exact x_iret hc hR hLo ⟨by omega, by omega⟩ heq d_M_about_72
set_option maxRecDepth 100000 in
set_option maxHeartbeats 4000000 in
theorem c_M_about {l : Launch} {s0 : State} {A0 : Array Value} {G : Gx_t} (hG : G_0 l s0 A0 G) (rm : Room) (hrm : rm_Ok 0 0 1 21 rm) (t0 : Nat) (x1 : Int32) (h0 : Hs_t) (r : Outcome × Hs_t) (heq : f_M_about t0 x1 h0 = some r) : M_X G s0 l y_M_about (.code y_M_about b_M_about 2 (some .int)) rm [.ref t0, .int x1] h0 r := by
  refine M_X.of (by decide) hG (fun p e s m below meth c H hc hR => ?_)
  have hx := hc.x
  have hb := hc.b
  obtain ⟨hm1, hm2, hm3, hm4⟩ := id hrm
  have hLo : Lo_k s0 [] := fun _ hq => absurd hq List.not_mem_nil
  have hl := lv_entry ([.ref t0, .int x1]) (n := 2) (Nat.le_of_ble_eq_true rfl)
  rw [lg_entry_eq]
  generalize (lg_sl ([.ref t0, .int x1]) ++ List.replicate (2 - (lg_sl ([.ref t0, .int x1])).length) Slot.unset).toArray = ls at hl ⊢
  have hl : lv_has ls 2 [(0, .ref t0), (1, .int x1)] := hl
  generalize hle : ([] : List Loc) = locs at hLo ⊢
  unfold f_M_about at heq
  refine lv_aload_n hx hb d_M_about_0 rfl (lv_at hl 0 rfl) ?_
  refine lv_iconst (v := 0) hx hb d_M_about_1 (by decide) ?_
  refine x_pV hc hR hLo fl_M_65 (Or.inl rfl) rfl rfl heq d_M_about_2 (fun h1 H locs hR hLo heq => ?_)
  refine lv_iload_n hx hb d_M_about_5 rfl (lv_at hl 1 rfl) ?_
  refine lv_iconst (v := (-1)) hx hb d_M_about_6 (by decide) ?_
  refine lv_icmp_ne (tgt := 15) hx hb d_M_about_7 rfl (fun hq => ?_) (fun hq => ?_)
  · rw [if_neg hq] at heq
    refine lv_iload_n hx hb d_M_about_15 rfl (lv_at hl 1 rfl) ?_
    refine lv_if_lt (tgt := 27) hx hb d_M_about_16 rfl (fun hq => ?_) (fun hq => ?_)
    · rw [if_pos hq] at heq
      refine W.widen (k := 0) (n := 0) (by omega) (by omega) ?_
      exact k_M_about_b27 hc hrm h1 H locs ls hR hLo (lv_sub hl [] rfl) heq
    · rw [if_neg hq] at heq
      refine lv_iload_n hx hb d_M_about_19 rfl (lv_at hl 1 rfl) ?_
      refine lv_aload_n hx hb d_M_about_20 rfl (lv_at hl 0 rfl) ?_
      refine x_gI hc hR fl_M_79 heq d_M_about_21 (fun v1 heq => ?_)
      refine lv_icmp_lt (tgt := 29) hx hb d_M_about_24 rfl (fun hq => ?_) (fun hq => ?_)
      · rw [if_pos hq] at heq
        refine lv_aload_n hx hb d_M_about_29 rfl (lv_at hl 0 rfl) ?_
        refine x_gA hc hR fl_M_20 heq d_M_about_30 (fun v2 heq => ?_)
        refine lv_iload_n hx hb d_M_about_33 rfl (lv_at hl 1 rfl) ?_
        refine x_aI hc hR heq d_M_about_34 (fun v3 heq => ?_)
        refine lv_iconst (v := 1) hx hb d_M_about_35 (by decide) ?_
        refine lv_icmp_ne (tgt := 47) hx hb d_M_about_36 rfl (fun hq => ?_) (fun hq => ?_)
        · rw [if_neg hq] at heq
          refine lv_aload_n hx hb d_M_about_47 rfl (lv_at hl 0 rfl) ?_
          refine x_gA hc hR fl_M_20 heq d_M_about_48 (fun v4 heq => ?_)
          refine lv_iload_n hx hb d_M_about_51 rfl (lv_at hl 1 rfl) ?_
          refine x_aI hc hR heq d_M_about_52 (fun v5 heq => ?_)
          refine lv_iconst (v := 2) hx hb d_M_about_53 (by decide) ?_
          refine lv_icmp_ne (tgt := 66) hx hb d_M_about_54 rfl (fun hq => ?_) (fun hq => ?_)
          · rw [if_neg hq] at heq
            refine lv_aload_n hx hb d_M_about_66 rfl (lv_at hl 0 rfl) ?_
            refine x_gA hc hR fl_M_26 heq d_M_about_67 (fun v6 heq => ?_)
            refine lv_iload_n hx hb d_M_about_70 rfl (lv_at hl 1 rfl) ?_
            refine x_aI hc hR heq d_M_about_71 (fun v7 heq => ?_)
            refine W.widen (k := 0) (n := 0) (by omega) (by omega) ?_
            exact k_M_about_b72 hc hrm v7 h1 H locs ls hR hLo (lv_sub hl [] rfl) heq
          · rw [if_pos hq] at heq
            refine lv_aload_n hx hb d_M_about_57 rfl (lv_at hl 0 rfl) ?_
            refine x_gA hc hR fl_M_41 heq d_M_about_58 (fun v8 heq => ?_)
            refine lv_iload_n hx hb d_M_about_61 rfl (lv_at hl 1 rfl) ?_
            refine x_aI hc hR heq d_M_about_62 (fun v9 heq => ?_)
            refine lv_goto (tgt := 72) hx hb d_M_about_63 rfl ?_
            refine W.widen (k := 0) (n := 0) (by omega) (by omega) ?_
            exact k_M_about_b72 hc hrm v9 h1 H locs ls hR hLo (lv_sub hl [] rfl) heq
        · rw [if_pos hq] at heq
          refine lv_aload_n hx hb d_M_about_39 rfl (lv_at hl 0 rfl) ?_
          refine lv_iload_n hx hb d_M_about_40 rfl (lv_at hl 1 rfl) ?_
          refine x_ck heq (fun tt fs ha ht heq => ?_)
          obtain rfl : tt = 8 := by simpa using ht
          refine x_bI (mc := 0) (ms := 0) (st := []) hc hLo heq ⟨by omega, by omega⟩ (fun r9 h9 => x_runV hc (c_M_toGive hc.g rm_M_toGive rk_M_toGive _ _ _ _ h9) md_M_toGive hR ha rfl wd_833 wd_835 sp_14 hl.1 ml_M_toGive rfl (Nat.le_of_ble_eq_true rfl) d_M_about_41 ⟨by show 0 + 1 ≤ _; omega, by show 8 + (2 + 11) + (0) ≤ _; omega⟩ ⟨by show 0 + 0 ≤ _; omega, by show 0 + 0 ≤ _; omega⟩) (fun v10 h2 H locs hR hLo heq => ?_)
          refine lv_goto (tgt := 72) hx hb d_M_about_44 rfl ?_
          refine W.widen (k := 0) (n := 0) (by omega) (by omega) ?_
          exact k_M_about_b72 hc hrm v10 h2 H locs ls hR hLo (lv_sub hl [] rfl) heq
      · rw [if_neg hq] at heq
        refine W.widen (k := 0) (n := 0) (by omega) (by omega) ?_
        exact k_M_about_b27 hc hrm h1 H locs ls hR hLo (lv_sub hl [] rfl) heq
  · rw [if_pos hq] at heq
    refine lv_aload_n hx hb d_M_about_10 rfl (lv_at hl 0 rfl) ?_
    refine x_gI hc hR fl_M_72 heq d_M_about_11 (fun v11 heq => ?_)
    exact x_iret hc hR hLo ⟨by omega, by omega⟩ heq d_M_about_14
def rm_M_about : Room := { frames := 1, cells := 0, slots := 0, locals := 21 }
theorem rk_M_about : rm_Ok 0 0 1 21 rm_M_about := ⟨Nat.le_refl _, Nat.le_refl _, Nat.le_refl _, Nat.le_refl _⟩
def f_M_size_b20 (sv0 : Int32) (h0 : Hs_t) : Rs_t := re_I sv0 h0
def f_M_size (t0 : Nat) (x1 : Int32) (h0 : Hs_t) : Rs_t := (pt_V [8] 0 h0 t0 (.int 0)).bind fun h1 => if x1 = 0 then ((fd_I [8] 25 h1 t0).bind fun v1 => f_M_size_b20 v1 h1) else ((fd_I [8] 27 h1 t0).bind fun v2 => f_M_size_b20 v2 h1)
set_option maxRecDepth 100000 in
set_option maxHeartbeats 4000000 in
theorem k_M_size_b20 {p : Program} {l : Launch} {e : Env} {s : State} {m : MethodId} {args : Array Value} {below : List Frame} {meth : Method} {c : Code} {s0 : State} {A0 : Array Value} {G : Gx_t} {r : Outcome × Hs_t} {rm : Room} (hc : Cx_t p s m meth c s0 A0 l G y_M_size b_M_size 2 (some .int) []) (hrm : rm_Ok 0 0 0 0 rm) : ∀ (sv0 : Int32) (h0 : Hs_t) (H : Heap) (locs : List Loc) (ls : Array Slot), Rp_h G s0.heap h0 H → Lo_k s0 locs → lv_has ls 2 [] → f_M_size_b20 sv0 h0 = some r → W p l e rm s m args below meth c H locs 0 0 (xq_MQ G s0 below r s rm.cells rm.slots) (F0 m 20 ls [.int sv0]) := by
  have hx := hc.x
  have hb := hc.b
  obtain ⟨hm1, hm2, hm3, hm4⟩ := id hrm
  intro sv0 h0 H locs ls hR hLo hl heq
  unfold f_M_size_b20 at heq
  exact x_iret hc hR hLo ⟨by omega, by omega⟩ heq d_M_size_20
set_option maxRecDepth 100000 in
set_option maxHeartbeats 4000000 in
theorem c_M_size {l : Launch} {s0 : State} {A0 : Array Value} {G : Gx_t} (hG : G_0 l s0 A0 G) (rm : Room) (hrm : rm_Ok 0 0 0 0 rm) (t0 : Nat) (x1 : Int32) (h0 : Hs_t) (r : Outcome × Hs_t) (heq : f_M_size t0 x1 h0 = some r) : M_X G s0 l y_M_size (.code y_M_size b_M_size 2 (some .int)) rm [.ref t0, .int x1] h0 r := by
  refine M_X.of (by decide) hG (fun p e s m below meth c H hc hR => ?_)
  have hx := hc.x
  have hb := hc.b
  obtain ⟨hm1, hm2, hm3, hm4⟩ := id hrm
  have hLo : Lo_k s0 [] := fun _ hq => absurd hq List.not_mem_nil
  have hl := lv_entry ([.ref t0, .int x1]) (n := 2) (Nat.le_of_ble_eq_true rfl)
  rw [lg_entry_eq]
  generalize (lg_sl ([.ref t0, .int x1]) ++ List.replicate (2 - (lg_sl ([.ref t0, .int x1])).length) Slot.unset).toArray = ls at hl ⊢
  have hl : lv_has ls 2 [(0, .ref t0), (1, .int x1)] := hl
  generalize hle : ([] : List Loc) = locs at hLo ⊢
  unfold f_M_size at heq
  refine lv_aload_n hx hb d_M_size_0 rfl (lv_at hl 0 rfl) ?_
  refine lv_iconst (v := 0) hx hb d_M_size_1 (by decide) ?_
  refine x_pV hc hR hLo fl_M_65 (Or.inl rfl) rfl rfl heq d_M_size_2 (fun h1 H locs hR hLo heq => ?_)
  refine lv_iload_n hx hb d_M_size_5 rfl (lv_at hl 1 rfl) ?_
  refine lv_if_eq (tgt := 16) hx hb d_M_size_6 rfl (fun hq => ?_) (fun hq => ?_)
  · rw [if_pos hq] at heq
    refine lv_aload_n hx hb d_M_size_16 rfl (lv_at hl 0 rfl) ?_
    refine x_gI hc hR fl_M_123 heq d_M_size_17 (fun v1 heq => ?_)
    refine W.widen (k := 0) (n := 0) (by omega) (by omega) ?_
    exact k_M_size_b20 hc hrm v1 h1 H locs ls hR hLo (lv_sub hl [] rfl) heq
  · rw [if_neg hq] at heq
    refine lv_aload_n hx hb d_M_size_9 rfl (lv_at hl 0 rfl) ?_
    refine x_gI hc hR fl_M_141 heq d_M_size_10 (fun v2 heq => ?_)
    refine lv_goto (tgt := 20) hx hb d_M_size_13 rfl ?_
    refine W.widen (k := 0) (n := 0) (by omega) (by omega) ?_
    exact k_M_size_b20 hc hrm v2 h1 H locs ls hR hLo (lv_sub hl [] rfl) heq
def rm_M_size : Room := { frames := 0, cells := 0, slots := 0, locals := 0 }
theorem rk_M_size : rm_Ok 0 0 0 0 rm_M_size := ⟨Nat.le_refl _, Nat.le_refl _, Nat.le_refl _, Nat.le_refl _⟩
